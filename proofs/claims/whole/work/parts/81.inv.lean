/-! what holds between the class and the reference -/
theorem zbest_b2 (len la : Int → Int) : ∀ n : Nat, zbest len la n < n ∧ -4 ≤ zbest len la n := by
  intro n
  induction n with
  | zero => exact ⟨by show (-4 : Int) < 0; decide, Int.le_refl _⟩
  | succ n ih =>
    show (if la n < 0 ∧ (zbest len la n < 0 ∨ len (zbest len la n) < len n) then (n : Int) else zbest len la n) < ((n + 1 : Nat) : Int) ∧ -4 ≤ (if la n < 0 ∧ (zbest len la n < 0 ∨ len (zbest len la n) < len n) then (n : Int) else zbest len la n)
    split <;> omega
theorem zbest_cg {f g : Int → Int} (la : Int → Int) : ∀ n : Nat, (∀ i : Int, 0 ≤ i → i < n → f i = g i) → zbest f la n = zbest g la n := by
  intro n
  induction n with
  | zero => exact fun _ => rfl
  | succ n ih =>
    intro h
    have i := ih (fun i i0 i1 => h i i0 (by omega))
    show (if la n < 0 ∧ (zbest f la n < 0 ∨ f (zbest f la n) < f n) then (n : Int) else zbest f la n) = (if la n < 0 ∧ (zbest g la n < 0 ∨ g (zbest g la n) < g n) then (n : Int) else zbest g la n)
    rw [i, h n (by omega) (by omega)]
    by_cases q : zbest g la n < 0
    · by_cases q2 : la n < 0
      · rw [if_pos ⟨q2, Or.inl q⟩, if_pos ⟨q2, Or.inl q⟩]
      · rw [if_neg (fun z => q2 z.1), if_neg (fun z => q2 z.1)]
    · rw [h _ (by omega) (by have := (zbest_b2 g la n).1; omega)]
theorem zlp_cg {f g : Int → Int} {n w : Nat} (hw : 0 < w) (hl : ∀ i : Int, 0 ≤ i → i < n → 1 ≤ f i ∧ f i ≤ 9) (h : ∀ i : Int, 0 ≤ i → i < n → f i = g i) : ∀ t : Nat, t ≤ n → zlp f n w t = zlp g n w t := by
  intro t
  induction t with
  | zero => exact fun _ => rfl
  | succ t ih =>
    intro ht
    have b := (zlp_b (len := f) (n := n) (w := w) hw hl t (by omega)).2.2.2.1 (by omega)
    show zlay1 f w (zlp f n w t) (zbest f (zlp f n w t).2.1 n) = zlay1 g w (zlp g n w t) (zbest g (zlp g n w t).2.1 n)
    rw [← ih (by omega), ← zbest_cg (zlp f n w t).2.1 n h]
    unfold zlay1
    rw [h _ b.1 b.2]
def iTx (I : zMem) : Prop := I 1 1 = I 115 20 ∧ (0 ≤ I 1 1 ∧ I 1 1 ≤ 200) ∧ ∀ j : Int, 0 ≤ j → j < I 1 1 → I 2 j = I 127 j
def iCh (I : zMem) : Prop := zCh I ∧ zLaid I ∧ (I 115 0 = I 34 0 ∧ I 115 1 = I 34 1 ∧ I 115 2 = I 34 2 ∧ I 115 3 = I 34 3) ∧
  (∀ c : Int, 0 ≤ c → c < I 34 2 → I 116 c = I 36 c ∧ I 117 c = I 37 c ∧ I 118 c = I 38 c ∧ ∀ i : Int, 0 ≤ i → i < I 38 c → I 119 (6 * c + i) = I (40 + c.toNat) i) ∧
  (∀ b : Int, 0 ≤ b → b < I 34 3 → I 120 b = I 46 b ∧ I 121 b = I 47 b)
def rOk (I : zMem) (c k w f u : Int) : Prop := (0 ≤ k ∧ k ≤ 3) ∧ (0 ≤ w ∧ w ≤ I 34 0) ∧ (¬ 0 < w → f = 0 ∧ u = 0) ∧ (0 < w → (0 ≤ f ∧ f ≤ 99999 + 30000 * c) ∧ u = f + tkOf k (I 36 c) (I (49 + c.toNat) w))
def iAh (I : zMem) : Prop := ∀ c : Int, 0 ≤ c → c < 6 → (0 ≤ I 69 c ∧ I 69 c < 64) ∧ ∀ a : Int, 0 ≤ a → a < 6 → (zbt (I 69 c) a = true ↔ ∃ b : Int, 0 ≤ b ∧ b < I 34 3 ∧ b ≠ -4 ∧ I 46 b = a ∧ I 47 b = c)
def iPl (I : zMem) : Prop := (∀ c : Int, 0 ≤ c → c < I 34 2 → rOk I c (I 65 c) (I 66 c) (I 67 c) (I 68 c) ∧ I 122 c = I 65 c ∧ I 122 (6 + c) = I 66 c ∧ I 122 (12 + c) = I 67 c) ∧ iAh I
/-- a row saved by the class is the row saved by the reference -/
def iRw (I : zMem) (r m : Nat) (q : Int) : Prop := ∀ c : Int, 0 ≤ c → c < I 34 2 → rOk I c (I r c) (I r (6 + c)) (I r (12 + c)) (I r (18 + c)) ∧ I m (18 * q + c) = I r c ∧ I m (18 * q + (6 + c)) = I r (6 + c) ∧ I m (18 * q + (12 + c)) = I r (12 + c)
def iHs (I : zMem) (o m : Nat) (j cap : Int) (rho : Int → Nat) : Prop := I 115 j = I o 1 ∧ (0 ≤ I o 1 ∧ I o 1 ≤ cap) ∧ ∀ q : Int, 0 ≤ q → q < I o 1 → iRw I (rho q) m q
def iWh (I : zMem) : Prop := I 115 18 = I 109 1 ∧ (0 ≤ I 109 1 ∧ I 109 1 ≤ 4) ∧ ∀ i : Int, 0 ≤ i → i < I 109 1 → I 126 i = I 110 i
def iSe (I : zMem) : Prop := zSe I ∧ I 115 14 = I 111 4 ∧ ∀ i : Int, 0 ≤ i → i < I 111 4 → I 124 (3 * i) = I 112 i ∧ I 124 (3 * i + 1) = I 113 i ∧ I 124 (3 * i + 2) = I 114 i
def bA (I : zMem) (lo a c : Int) : Bool := zany (fun b => !decide (b = lo) && (decide (I 46 b = a) && decide (I 47 b = c))) (I 34 3).toNat
def bS (I : zMem) (ka : Int → Int) (lo : Int) : zS := ((I 34 2, I 34 0, I 34 1), I 37, (fun c w => tkOf (ka c) (I 36 c) (I (49 + c.toNat) w)), bA I lo, (fun _ => 0), (fun _ => 0), (fun _ => 0))
def bB (I : zMem) : zBst := fun ka lo r o => r = (bFo (bS I ka lo) (I 34 2) (zQn (I 34 2) + 1)).1 ∧ ∀ c : Int, 0 ≤ c → c < I 34 2 → o c = (bFo (bS I ka lo) (I 34 2) (zQn (I 34 2) + 1)).2 c
def Inv (I : zMem) (R : zRef) (rho1 rho2 : Int → Nat) : Prop := iTx I ∧ iCh I ∧ iPl I ∧ iHs I 95 123 12 8 rho1 ∧ iHs I 105 125 16 2 rho2 ∧ iWh I ∧ iSe I ∧ zCache (bB I) I ∧ zShf 95 8 R rho1 ∧ zShf 105 2 R rho2 ∧ zWir 143 R
theorem iCh_m {I : zMem} (h : iCh I) : mCh I := by
  obtain ⟨⟨h1, h2, h3, h4, h5, h6⟩, -, ⟨e0, e1, e2, e3⟩, hc, -⟩ := h
  refine ⟨by omega, by omega, by omega, by omega, fun c c0 c1 => ?_⟩
  have g := hc c c0 (by omega)
  have f := h5 c c0 (by omega)
  rw [g.1, g.2.1, g.2.2.1]
  refine ⟨f.1, f.2.1, f.2.2.1, fun i i0 i1 => ?_⟩
  rw [g.2.2.2 i i0 i1]
  exact f.2.2.2.1 i i0 i1
theorem iPl_m {I : zMem} (h : iCh I) (hp : iPl I) : mPl I := by
  obtain ⟨⟨h1, h2, h3, h4, h5, h6⟩, -, ⟨e0, e1, e2, e3⟩, hc, -⟩ := h
  intro c c0 c1
  obtain ⟨⟨r1, r2, r3, r4⟩, p1, p2, p3⟩ := hp.1 c c0 (by omega)
  rw [p1, p2, p3, e0]
  refine ⟨r1, r2, ?_⟩
  by_cases q : 0 < I 66 c
  · have := (r4 q).1
    omega
  · have := (r3 q).1
    omega
theorem iLp {I : zMem} (h : iCh I) {c w : Int} (c0 : 0 ≤ c) (c1 : c < I 34 2) (w0 : 1 ≤ w) (w1 : w ≤ I 34 0) : mLp I c w (I 118 c).toNat = zlp (I (40 + c.toNat)) (I 38 c).toNat w.toNat (I 38 c).toNat := by
  obtain ⟨⟨h1, h2, h3, h4, h5, h6⟩, -, ⟨e0, e1, e2, e3⟩, hc, -⟩ := h
  have g := hc c c0 c1
  have f := h5 c c0 c1
  unfold mLp
  rw [g.2.2.1]
  exact (zlp_cg (by omega) (fun i i0 i1 => f.2.2.2.1 i i0 (by omega)) (fun i i0 i1 => (g.2.2.2 i i0 (by omega)).symm) _ (Nat.le_refl _)).symm
theorem iTo {I : zMem} (h : iCh I) {k c w : Int} (c0 : 0 ≤ c) (c1 : c < I 34 2) (w0 : 1 ≤ w) (w1 : w ≤ I 34 0) : mTo I k c w = tkOf k (I 36 c) (I (49 + c.toNat) w) := by
  unfold mTo
  rw [iLp h c0 c1 w0 w1, (h.2.2.2.1 c c0 c1).1, (h.2.1 c w c0 c1 w0 w1).1]
theorem tk_b {k p l : Int} (hk : 0 ≤ k ∧ k ≤ 3) (hp : 1 ≤ p ∧ p ≤ 20) (hl : 1 ≤ l ∧ l ≤ 54) : 2 ≤ tkOf k p l ∧ tkOf k p l ≤ 2234 := by
  have h1 : p * 1 ≤ p * l := Int.mul_le_mul_of_nonneg_left hl.1 (by omega)
  have h2 : p * l ≤ 20 * l := Int.mul_le_mul_of_nonneg_right hp.2 (by omega)
  have h3 : p * (l + 1) = p * l + p := by rw [Int.mul_add, Int.mul_one]
  unfold tkOf
  rw [h3]
  split
  · omega
  · split
    · omega
    · split
      · omega
      · omega
theorem bA_iff {I : zMem} {lo a c : Int} : bA I lo a c = true ↔ ∃ b : Int, 0 ≤ b ∧ b < I 34 3 ∧ b ≠ lo ∧ I 46 b = a ∧ I 47 b = c := by
  unfold bA
  rw [zany_iff]
  constructor
  · rintro ⟨b, b0, b1, hb⟩
    rw [Bool.and_eq_true, Bool.and_eq_true, Bool.not_eq_true', decide_eq_false_iff_not, decide_eq_true_iff, decide_eq_true_iff] at hb
    exact ⟨b, b0, by omega, hb.1, hb.2.1, hb.2.2⟩
  · rintro ⟨b, b0, b1, h1, h2, h3⟩
    refine ⟨b, b0, by omega, ?_⟩
    rw [Bool.and_eq_true, Bool.and_eq_true, Bool.not_eq_true', decide_eq_false_iff_not, decide_eq_true_iff, decide_eq_true_iff]
    exact ⟨h1, h2, h3⟩
theorem mA_bA {I : zMem} (h : iCh I) (wo a c : Int) : mA I wo a c = bA I wo a c := by
  have e3 : I 115 3 = I 34 3 := h.2.2.1.2.2.2
  have hb := h.2.2.2.2
  rw [Bool.eq_iff_iff, bA_iff]
  unfold mA
  rw [zany_iff, e3]
  constructor
  · rintro ⟨b, b0, b1, hb2⟩
    unfold mRu at hb2
    rw [Bool.and_eq_true, Bool.and_eq_true, Bool.not_eq_true', decide_eq_false_iff_not, decide_eq_true_iff, decide_eq_true_iff, (hb b b0 (by omega)).1, (hb b b0 (by omega)).2] at hb2
    exact ⟨b, b0, by omega, hb2.1, hb2.2.1, hb2.2.2⟩
  · rintro ⟨b, b0, b1, h1, h2, h3⟩
    refine ⟨b, b0, by omega, ?_⟩
    unfold mRu
    rw [Bool.and_eq_true, Bool.and_eq_true, Bool.not_eq_true', decide_eq_false_iff_not, decide_eq_true_iff, decide_eq_true_iff, (hb b b0 (by omega)).1, (hb b b0 (by omega)).2]
    exact ⟨h1, h2, h3⟩
