/-! the ideal load on both sides -/
def iAdd (ld : Int → Int) (l x : Int) : Int → Int := fun y => if y = l then ld y + x else ld y
/-- the last f chains can be laid on w lines, no touched line above v -/
def Fit (len : Int → Int) (n w v : Int) : Nat → (Int → Int) → Prop
  | 0, _ => True
  | f + 1, ld => ∃ l : Int, 0 ≤ l ∧ l < w ∧ ld l + len (n - (f + 1)) ≤ v ∧ Fit len n w v f (iAdd ld l (len (n - (f + 1))))
def iSwp (a b : Int) : Int → Int := fun x => if x = a then b else if x = b then a else x
theorem iSwp_invol (a b x : Int) : iSwp a b (iSwp a b x) = x := by
  unfold iSwp
  by_cases h1 : x = a
  · rw [if_pos h1]
    by_cases h2 : b = a
    · rw [if_pos h2, h1, h2]
    · rw [if_neg h2, if_pos rfl, h1]
  · rw [if_neg h1]
    by_cases h2 : x = b
    · rw [if_pos h2, if_pos rfl, h2]
    · rw [if_neg h2, if_neg h1, if_neg h2]
theorem iSwp_b {a b w x : Int} (ha : 0 ≤ a ∧ a < w) (hb : 0 ≤ b ∧ b < w) (hx : 0 ≤ x ∧ x < w) : 0 ≤ iSwp a b x ∧ iSwp a b x < w := by
  unfold iSwp
  split
  · exact hb
  · split
    · exact ha
    · exact hx
theorem Fit_swap {len : Int → Int} {n w v a b : Int} (ha : 0 ≤ a ∧ a < w) (hb : 0 ≤ b ∧ b < w) : ∀ (f : Nat) (ld : Int → Int), Fit len n w v f ld → Fit len n w v f (fun x => ld (iSwp a b x)) := by
  intro f
  induction f with
  | zero => exact fun _ _ => trivial
  | succ f ih =>
    intro ld h
    obtain ⟨l, l0, l1, l2, l3⟩ := h
    have sb := iSwp_b ha hb ⟨l0, l1⟩
    refine ⟨iSwp a b l, sb.1, sb.2, by show ld (iSwp a b (iSwp a b l)) + len (n - (f + 1)) ≤ v; rw [iSwp_invol]; exact l2, ?_⟩
    have := ih _ l3
    have e : (fun x => iAdd ld l (len (n - (f + 1))) (iSwp a b x)) = iAdd (fun x => ld (iSwp a b x)) (iSwp a b l) (len (n - (f + 1))) := by
      funext x
      unfold iAdd
      by_cases q : iSwp a b x = l
      · rw [if_pos q, if_pos (by rw [← q, iSwp_invol])]
      · rw [if_neg q, if_neg (fun z => q (by rw [z, iSwp_invol]))]
    rw [e] at this
    exact this
/-- lines below p are taken, those from p on are empty -/
def iPfx (w p : Int) (ld : Int → Int) : Prop := 0 ≤ p ∧ ∀ l : Int, 0 ≤ l → l < w → 0 ≤ ld l ∧ (ld l = 0 ↔ p ≤ l)
theorem iPfx_add {w p x l : Int} {ld : Int → Int} (h : iPfx w p ld) (hx : 1 ≤ x) (l0 : 0 ≤ l) (lp : l ≤ p) : iPfx w (if l = p then p + 1 else p) (iAdd ld l x) := by
  refine ⟨by have := h.1; split <;> omega, fun y y0 y1 => ?_⟩
  have g := h.2 y y0 y1
  unfold iAdd
  by_cases e : y = l
  · rw [if_pos e]
    by_cases e2 : l = p
    · rw [if_pos e2]
      omega
    · rw [if_neg e2]
      omega
  · rw [if_neg e]
    by_cases e2 : l = p
    · rw [if_pos e2]
      omega
    · rw [if_neg e2]
      exact g
/-- a chain may go to one of the taken lines or to the first that is empty -/
theorem Fit_sym {len : Int → Int} {n w v p : Int} {f : Nat} {ld : Int → Int} (hp : iPfx w p ld) (h : Fit len n w v (f + 1) ld) : ∃ l : Int, 0 ≤ l ∧ l < w ∧ l ≤ p ∧ ld l + len (n - (f + 1)) ≤ v ∧ Fit len n w v f (iAdd ld l (len (n - (f + 1)))) := by
  obtain ⟨l, l0, l1, l2, l3⟩ := h
  by_cases q : l ≤ p
  · exact ⟨l, l0, l1, q, l2, l3⟩
  · have gl := hp.2 l l0 l1
    have gp := hp.2 p hp.1 (by omega)
    have zl : ld l = 0 := gl.2.mpr (by omega)
    have zp : ld p = 0 := gp.2.mpr (Int.le_refl _)
    refine ⟨p, hp.1, by omega, Int.le_refl _, by omega, ?_⟩
    have := Fit_swap (a := l) (b := p) ⟨l0, l1⟩ ⟨hp.1, by omega⟩ f _ l3
    have e : (fun x => iAdd ld l (len (n - (f + 1))) (iSwp l p x)) = iAdd ld p (len (n - (f + 1))) := by
      funext x
      unfold iAdd iSwp
      by_cases h1 : x = l
      · rw [if_pos h1, if_neg (by omega), if_neg (by omega), zp, h1, zl]
      · rw [if_neg h1]
        by_cases h2 : x = p
        · rw [if_pos h2, if_pos rfl, if_pos h2, zl, h2, zp]
        · rw [if_neg h2, if_neg h1, if_neg h2]
    rw [e] at this
    exact this
/-- what the class's search says -/
theorem ilTry_spec {len : Int → Int} {n w : Int} (hw : 0 ≤ w) (hl : ∀ i : Int, 0 ≤ i → i < n → 1 ≤ len i) : ∀ (f : Nat) (ld : Int → Int) (most known p : Int), (f : Int) ≤ n → iPfx w p ld → ilTry len n w f ld most known ≤ known ∧ ∀ v, v < known → (ilTry len n w f ld most known ≤ v ↔ (most ≤ v ∧ Fit len n w v f ld)) := by
  intro f
  induction f with
  | zero =>
    intro ld most known p _ _
    show (if known ≤ most then known else most) ≤ known ∧ ∀ v, v < known → ((if known ≤ most then known else most) ≤ v ↔ (most ≤ v ∧ True))
    by_cases q : known ≤ most
    · rw [if_pos q]
      exact ⟨Int.le_refl _, fun v hv => ⟨fun h => by omega, fun h => by omega⟩⟩
    · rw [if_neg q]
      exact ⟨by omega, fun v hv => ⟨fun h => ⟨h, trivial⟩, fun h => h.1⟩⟩
  | succ f ih =>
    intro ld most known p hf hp
    have hli := hl (n - (f + 1)) (by omega) (by omega)
    have e : ilTry len n w (f + 1) ld most known = if known ≤ most then known else ilLoop (fun ld' most' known' => ilTry len n w f ld' most' known') ld w (len (n - (f + 1))) most w.toNat known := rfl
    rw [e]
    by_cases q : known ≤ most
    · rw [if_pos q]
      exact ⟨Int.le_refl _, fun v hv => ⟨fun h => by omega, fun h => by omega⟩⟩
    · rw [if_neg q]
      have loop : ∀ (k : Nat) (l le : Int), 0 ≤ l → l + (k : Int) = w → l ≤ p → ilLoop (fun ld' most' known' => ilTry len n w f ld' most' known') ld w (len (n - (f + 1))) most k le ≤ le ∧ ∀ v, v < le → (ilLoop (fun ld' most' known' => ilTry len n w f ld' most' known') ld w (len (n - (f + 1))) most k le ≤ v ↔ ∃ l' : Int, l ≤ l' ∧ l' < w ∧ l' ≤ p ∧ (max most (ld l' + len (n - (f + 1))) ≤ v ∧ Fit len n w v f (iAdd ld l' (len (n - (f + 1)))))) := by
        intro k
        induction k with
        | zero =>
          intro l le l0 lk lp
          show le ≤ le ∧ ∀ v, v < le → (le ≤ v ↔ _)
          exact ⟨Int.le_refl _, fun v hv => ⟨fun h => by omega, fun ⟨l', h1, h2, _⟩ => by omega⟩⟩
        | succ k ihk =>
          intro l le l0 lk lp
          have gl := hp.2 l l0 (by omega)
          have r := ih (iAdd ld l (len (n - (f + 1)))) (max most (ld l + len (n - (f + 1)))) le _ (by omega) (iPfx_add hp hli l0 lp)
          rw [ilLoop_succ (l := l) (by omega)]
          have ea : (fun x => if x = l then ld x + len (n - (f + 1)) else ld x) = iAdd ld l (len (n - (f + 1))) := rfl
          rw [ea]
          generalize ilTry len n w f (iAdd ld l (len (n - (f + 1)))) (max most (ld l + len (n - (f + 1)))) le = le' at *
          by_cases z : ld l = 0
          · rw [if_pos z]
            refine ⟨r.1, fun v hv => (r.2 v hv).trans ⟨fun h => ⟨l, Int.le_refl _, by omega, lp, h⟩, fun ⟨l', h1, h2, h3, h4⟩ => ?_⟩⟩
            have : l' = l := by omega
            rw [this] at h4
            exact h4
          · rw [if_neg z]
            have i := ihk (l + 1) le' (by omega) (by omega) (by omega)
            refine ⟨by omega, fun v hv => ?_⟩
            by_cases c : le' ≤ v
            · exact ⟨fun _ => ⟨l, Int.le_refl _, by omega, lp, (r.2 v hv).mp c⟩, fun _ => by omega⟩
            · rw [i.2 v (by omega)]
              constructor
              · rintro ⟨l', h1, h2⟩
                exact ⟨l', by omega, h2⟩
              · rintro ⟨l', h1, h2, h3, h4⟩
                by_cases el : l' = l
                · rw [el] at h4
                  exact absurd ((r.2 v hv).mpr h4) c
                · exact ⟨l', by omega, h2, h3, h4⟩
      have g := loop w.toNat 0 known (Int.le_refl _) (by omega) hp.1
      refine ⟨g.1, fun v hv => (g.2 v hv).trans ⟨fun ⟨l', h1, h2, h3, h4, h5⟩ => ⟨by omega, l', h1, h2, by omega, h5⟩, fun ⟨h1, h2⟩ => ?_⟩⟩
      obtain ⟨l', k0, k1, k2, k3, k4⟩ := Fit_sym hp h2
      exact ⟨l', k0, k1, k2, by omega, k4⟩
theorem Fit_mono {len : Int → Int} {n w w' v : Int} (hw : w ≤ w') : ∀ (f : Nat) (ld : Int → Int), Fit len n w v f ld → Fit len n w' v f ld := by
  intro f
  induction f with
  | zero => exact fun _ _ => trivial
  | succ f ih =>
    intro ld h
    obtain ⟨l, l0, l1, l2, l3⟩ := h
    exact ⟨l, l0, by omega, l2, ih _ l3⟩
/-- so many lines as there are chains are enough -/
theorem Fit_few {len : Int → Int} {n w v : Int} (hl : ∀ i : Int, 0 ≤ i → i < n → 1 ≤ len i) : ∀ (f : Nat) (ld : Int → Int) (p : Int), iPfx w p ld → p + f ≤ n → Fit len n w v f ld → Fit len n n v f ld := by
  intro f
  induction f with
  | zero => exact fun _ _ _ _ _ => trivial
  | succ f ih =>
    intro ld p hp hpn h
    obtain ⟨l, l0, l1, l2, l3, l4⟩ := Fit_sym hp h
    have hp0 := hp.1
    have hli := hl (n - (f + 1)) (by omega) (by omega)
    refine ⟨l, l0, by omega, l3, ih _ _ (iPfx_add hp hli l0 l2) ?_ l4⟩
    split <;> omega
/-- the load when the chains are laid by a code -/
def iE (len : Int → Int) (n wd : Int) : Nat → (Int → Int) → Int → Int → Int
  | 0, _, _, m => m
  | f + 1, ld, code, m => iE len n wd f (iAdd ld (code % wd) (len (n - (f + 1)))) (code / wd) (max m (ld (code % wd) + len (n - (f + 1))))
theorem iE_ge {len : Int → Int} {n wd : Int} : ∀ (f : Nat) (ld : Int → Int) (code m : Int), m ≤ iE len n wd f ld code m := by
  intro f
  induction f with
  | zero => exact fun _ _ _ => Int.le_refl _
  | succ f ih =>
    intro ld code m
    have := ih (iAdd ld (code % wd) (len (n - (f + 1)))) (code / wd) (max m (ld (code % wd) + len (n - (f + 1))))
    show m ≤ iE len n wd f _ _ _
    omega
theorem iE_fit {len : Int → Int} {n wd v : Int} (hwd : 1 ≤ wd) : ∀ (f : Nat) (ld : Int → Int) (m : Int), (∃ code : Int, 0 ≤ code ∧ code < wd ^ f ∧ iE len n wd f ld code m ≤ v) ↔ (m ≤ v ∧ Fit len n wd v f ld) := by
  intro f
  induction f with
  | zero =>
    intro ld m
    constructor
    · rintro ⟨c, -, -, h⟩
      exact ⟨h, trivial⟩
    · rintro ⟨h, -⟩
      exact ⟨0, Int.le_refl _, by rw [Int.pow_zero]; decide, h⟩
  | succ f ih =>
    intro ld m
    have hp : (0 : Int) < wd ^ f := Int.pow_pos (by omega)
    have hs : wd ^ (f + 1) = wd * wd ^ f := by rw [Int.pow_succ, Int.mul_comm]
    constructor
    · rintro ⟨c, c0, c1, h⟩
      have h : iE len n wd f (iAdd ld (c % wd) (len (n - (f + 1)))) (c / wd) (max m (ld (c % wd) + len (n - (f + 1)))) ≤ v := h
      have g := (ih _ _).mp ⟨c / wd, Int.ediv_nonneg c0 (by omega), by rw [hs, Int.mul_comm] at c1; exact Int.ediv_lt_of_lt_mul (by omega) c1, h⟩
      have m0 := Int.emod_nonneg c (show wd ≠ 0 by omega)
      have m1 := Int.emod_lt_of_pos c (show 0 < wd by omega)
      exact ⟨by omega, c % wd, m0, m1, by omega, g.2⟩
    · rintro ⟨h, l, l0, l1, l2, l3⟩
      obtain ⟨c, c0, c1, c2⟩ := (ih _ (max m (ld l + len (n - (f + 1))))).mpr ⟨by omega, l3⟩
      have em : (l + wd * c) % wd = l := by rw [Int.add_mul_emod_self_left, Int.emod_eq_of_lt l0 l1]
      have ed : (l + wd * c) / wd = c := by rw [Int.add_mul_ediv_left _ _ (show wd ≠ 0 by omega), Int.ediv_eq_zero_of_lt l0 l1, Int.zero_add]
      have wc : 0 ≤ wd * c := Int.mul_nonneg (by omega) c0
      have wc2 : wd * c + wd ≤ wd * wd ^ f := by
        have := Int.mul_le_mul_of_nonneg_left (show c + 1 ≤ wd ^ f by omega) (show 0 ≤ wd by omega)
        rw [Int.mul_add, Int.mul_one] at this
        exact this
      refine ⟨l + wd * c, by omega, by rw [hs]; omega, ?_⟩
      show iE len n wd f (iAdd ld ((l + wd * c) % wd) (len (n - (f + 1)))) ((l + wd * c) / wd) (max m (ld ((l + wd * c) % wd) + len (n - (f + 1)))) ≤ v
      rw [em, ed]
      exact c2
/-- the least over all codes below k -/
def iMin (len : Int → Int) (n wd : Int) (f : Nat) (ld : Int → Int) : Nat → Int
  | 0 => 100000
  | k + 1 => if iE len n wd f ld k 0 < iMin len n wd f ld k then iE len n wd f ld k 0 else iMin len n wd f ld k
theorem iMin_spec {len : Int → Int} {n wd : Int} {f : Nat} {ld : Int → Int} : ∀ k : Nat, iMin len n wd f ld k ≤ 100000 ∧ ∀ v, v < 100000 → (iMin len n wd f ld k ≤ v ↔ ∃ code : Int, 0 ≤ code ∧ code < k ∧ iE len n wd f ld code 0 ≤ v) := by
  intro k
  induction k with
  | zero =>
    refine ⟨Int.le_refl _, fun v hv => ⟨fun h => ?_, fun ⟨c, c0, c1, _⟩ => by omega⟩⟩
    have h : (100000 : Int) ≤ v := h
    omega
  | succ k ih =>
    show (if iE len n wd f ld k 0 < iMin len n wd f ld k then iE len n wd f ld k 0 else iMin len n wd f ld k) ≤ 100000 ∧ ∀ v, v < 100000 → ((if iE len n wd f ld k 0 < iMin len n wd f ld k then iE len n wd f ld k 0 else iMin len n wd f ld k) ≤ v ↔ _)
    by_cases q : iE len n wd f ld k 0 < iMin len n wd f ld k
    · rw [if_pos q]
      refine ⟨by omega, fun v hv => ⟨fun h => ⟨k, by omega, by omega, h⟩, fun ⟨c, c0, c1, c2⟩ => ?_⟩⟩
      by_cases e : c = k
      · rw [e] at c2
        exact c2
      · have := (ih.2 v hv).mpr ⟨c, c0, by omega, c2⟩
        omega
    · rw [if_neg q]
      refine ⟨ih.1, fun v hv => ⟨fun h => ?_, fun ⟨c, c0, c1, c2⟩ => ?_⟩⟩
      · obtain ⟨c, c0, c1, c2⟩ := (ih.2 v hv).mp h
        exact ⟨c, c0, by omega, c2⟩
      · by_cases e : c = k
        · rw [e] at c2
          omega
        · exact (ih.2 v hv).mpr ⟨c, c0, by omega, c2⟩
/-- laid by an assignment -/
theorem Fit_of {len a : Int → Int} {n w v : Int} (hl : ∀ i : Int, 0 ≤ i → i < n → 0 ≤ len i) (ha : ∀ k : Int, 0 ≤ k → k < n → 0 ≤ a k ∧ a k < w) : ∀ (f : Nat) (ld : Int → Int), (f : Int) ≤ n → (∀ l : Int, 0 ≤ l → l < w → ld l + zsum (fun k => if n - f ≤ k ∧ a k = l then len k else 0) n.toNat ≤ v) → Fit len n w v f ld := by
  intro f
  induction f with
  | zero => exact fun _ _ _ => trivial
  | succ f ih =>
    intro ld hf h
    have ak := ha (n - (f + 1)) (by omega) (by omega)
    have split : ∀ l : Int, zsum (fun k => if n - ((f + 1 : Nat) : Int) ≤ k ∧ a k = l then len k else 0) n.toNat = zsum (fun k => if n - (f : Int) ≤ k ∧ a k = l then len k else 0) n.toNat + (if a (n - (f + 1)) = l then len (n - (f + 1)) else 0) := fun l => by
      have e := zind (if a (n - (f + 1)) = l then len (n - (f + 1)) else 0) (n - (f + 1)) (n - (f + 1) + 1) n.toNat (by omega) (by omega) (by omega)
      rw [show n - ((f : Int) + 1) + 1 - (n - (f + 1)) = 1 by omega, Int.mul_one] at e
      rw [← e, ← zsum_add]
      refine zsum_congr (fun k k0 k1 => ?_)
      show (if n - ((f + 1 : Nat) : Int) ≤ k ∧ a k = l then len k else 0) = (if n - (f : Int) ≤ k ∧ a k = l then len k else 0) + (if n - ((f : Int) + 1) ≤ k ∧ k < n - ((f : Int) + 1) + 1 then (if a (n - (f + 1)) = l then len (n - (f + 1)) else 0) else 0)
      by_cases ek : k = n - (f + 1)
      · rw [if_neg (show ¬ (n - (f : Int) ≤ k ∧ a k = l) from fun z => by omega), if_pos (show n - ((f : Int) + 1) ≤ k ∧ k < n - ((f : Int) + 1) + 1 by omega), Int.zero_add, ek]
        by_cases z : a (n - (f + 1)) = l
        · rw [if_pos z, if_pos ⟨by omega, z⟩]
        · rw [if_neg z, if_neg (fun y => z y.2)]
      · rw [if_neg (show ¬ (n - ((f : Int) + 1) ≤ k ∧ k < n - ((f : Int) + 1) + 1) by omega), Int.add_zero]
        by_cases z : n - (f : Int) ≤ k ∧ a k = l
        · rw [if_pos z, if_pos ⟨by omega, z.2⟩]
        · rw [if_neg z, if_neg (fun y => z ⟨by omega, y.2⟩)]
    have nn : ∀ l : Int, 0 ≤ zsum (fun k => if n - (f : Int) ≤ k ∧ a k = l then len k else 0) n.toNat := fun l => by
      have := zsum_mono (f := fun _ => 0) (g := fun k => if n - (f : Int) ≤ k ∧ a k = l then len k else 0) (n := n.toNat) (fun k k0 k1 => by
        show (0 : Int) ≤ if n - (f : Int) ≤ k ∧ a k = l then len k else 0
        have := hl k k0 (by omega)
        split <;> omega)
      rw [zsum_zero] at this
      exact this
    refine ⟨a (n - (f + 1)), ak.1, ak.2, ?_, ih _ (by omega) (fun l l0 l1 => ?_)⟩
    · have := h _ ak.1 ak.2
      rw [split, if_pos rfl] at this
      have := nn (a (n - (f + 1)))
      omega
    · have := h l l0 l1
      rw [split] at this
      unfold iAdd
      by_cases z : a (n - (f + 1)) = l
      · rw [if_pos z] at this
        rw [if_pos z.symm]
        omega
      · rw [if_neg z] at this
        rw [if_neg (fun y => z y.symm)]
        omega
/-- the loads of laying are those of its assignment -/
theorem zlp_sum {len : Int → Int} {n w : Nat} (hw : 0 < w) (hl : ∀ i : Int, 0 ≤ i → i < n → 1 ≤ len i ∧ len i ≤ 9) : ∀ t : Nat, t ≤ n → (∀ l : Int, 0 ≤ l → (zlp len n w t).1 l = zsum (fun k => if (zlp len n w t).2.1 k = l then len k else 0) n ∧ (zlp len n w t).1 l ≤ (zlp len n w t).2.2) ∧ (zsum (fun k => if 0 ≤ (zlp len n w t).2.1 k then 1 else 0) n = t) := by
  intro t
  induction t with
  | zero =>
    refine fun _ => ⟨fun l l0 => ⟨?_, Int.le_refl _⟩, ?_⟩
    · show (0 : Int) = zsum (fun k => if (-4 : Int) = l then len k else 0) n
      rw [zsum_congr (g := fun _ => 0) (fun k _ _ => if_neg (by omega)), zsum_zero]
    · show zsum (fun k => if (0 : Int) ≤ -4 then 1 else 0) n = 0
      rw [zsum_congr (g := fun _ => 0) (fun k _ _ => if_neg (by omega)), zsum_zero]
  | succ t ih =>
    intro ht
    obtain ⟨i1, i2⟩ := ih (by omega)
    have bb := (zlp_b hw hl t (by omega)).2.2.2.1 (by omega)
    have nl : (zlp len n w t).2.1 (zbest len (zlp len n w t).2.1 n) < 0 := by
      rcases zbest_spec len (zlp len n w t).2.1 n with ⟨h1, -⟩ | ⟨-, -, h3, -⟩
      · omega
      · exact h3
    have al := zamin_b (zlp len n w t).1 w hw
    have e : zlp len n w (t + 1) = zlay1 len w (zlp len n w t) (zbest len (zlp len n w t).2.1 n) := rfl
    rw [e]
    generalize zlp len n w t = z at *
    generalize zbest len z.2.1 n = be at *
    have one : ∀ (v : Int), zsum (fun k => if k = be then v else 0) n = v := fun v => by
      have := zind v be (be + 1) n bb.1 (by omega) (by omega)
      rw [show be + 1 - be = 1 by omega, Int.mul_one] at this
      refine Eq.trans (zsum_congr (fun k _ _ => ?_)) this
      show (if k = be then v else 0) = if be ≤ k ∧ k < be + 1 then v else 0
      by_cases q : k = be
      · rw [if_pos q, if_pos (by omega)]
      · rw [if_neg q, if_neg (by omega)]
    refine ⟨fun l l0 => ⟨?_, ?_⟩, ?_⟩
    · show (if l = zamin z.1 w then z.1 (zamin z.1 w) + len be else z.1 l) = zsum (fun k => if (if k = be then zamin z.1 w else z.2.1 k) = l then len k else 0) n
      have : zsum (fun k => if (if k = be then zamin z.1 w else z.2.1 k) = l then len k else 0) n = zsum (fun k => if z.2.1 k = l then len k else 0) n + zsum (fun k => if k = be then (if zamin z.1 w = l then len be else 0) else 0) n := by
        rw [← zsum_add]
        refine zsum_congr (fun k _ _ => ?_)
        show (if (if k = be then zamin z.1 w else z.2.1 k) = l then len k else 0) = (if z.2.1 k = l then len k else 0) + (if k = be then (if zamin z.1 w = l then len be else 0) else 0)
        by_cases q : k = be
        · rw [if_pos q, if_pos q, q, if_neg (show ¬ z.2.1 be = l by omega), Int.zero_add]
        · rw [if_neg q, if_neg q, Int.add_zero]
      rw [this, one, ← (i1 l l0).1]
      by_cases q : l = zamin z.1 w
      · rw [if_pos q, if_pos q.symm, ← q]
      · rw [if_neg q, if_neg (fun y => q y.symm), Int.add_zero]
    · show (if l = zamin z.1 w then z.1 (zamin z.1 w) + len be else z.1 l) ≤ max z.2.2 (z.1 (zamin z.1 w) + len be)
      have := (i1 l l0).2
      split <;> omega
    · show zsum (fun k => if 0 ≤ (if k = be then zamin z.1 w else z.2.1 k) then 1 else 0) n = ((t + 1 : Nat) : Int)
      have : zsum (fun k => if 0 ≤ (if k = be then zamin z.1 w else z.2.1 k) then (1 : Int) else 0) n = zsum (fun k => if 0 ≤ z.2.1 k then 1 else 0) n + zsum (fun k => if k = be then 1 else 0) n := by
        rw [← zsum_add]
        refine zsum_congr (fun k _ _ => ?_)
        show (if 0 ≤ (if k = be then zamin z.1 w else z.2.1 k) then (1 : Int) else 0) = (if 0 ≤ z.2.1 k then 1 else 0) + (if k = be then 1 else 0)
        by_cases q : k = be
        · rw [if_pos q, if_pos q, q, if_pos al.1, if_neg (by omega)]
          rfl
        · rw [if_neg q, if_neg q, Int.add_zero]
      rw [this, one, i2]
      omega
/-- both sides say the same -/
theorem ideal_eq {len : Int → Int} {n w : Int} {ld ld' : Int → Int} (hn : 1 ≤ n ∧ n ≤ 6) (hw : 1 ≤ w ∧ w ≤ 8) (hl : ∀ i : Int, 0 ≤ i → i < n → 1 ≤ len i ∧ len i ≤ 9) (h0 : ∀ x : Int, 0 ≤ x → x < 8 → ld x = 0) (h0' : ∀ x : Int, 0 ≤ x → x < 8 → ld' x = 0) : ilTry len n w n.toNat ld 0 (zlp len n.toNat w.toNat n.toNat).2.2 = iMin len n (if w < n then w else n) n.toNat ld' ((if w < n then w else n) ^ n.toNat).toNat := by
  have hpf : ∀ W : Int, W ≤ 8 → ∀ l : Int → Int, (∀ x : Int, 0 ≤ x → x < 8 → l x = 0) → iPfx W 0 l := fun W hW l hl0 => ⟨Int.le_refl _, fun x x0 x1 => by rw [hl0 x x0 (by omega)]; exact ⟨Int.le_refl _, ⟨fun _ => x0, fun _ => rfl⟩⟩⟩
  obtain ⟨s1, s2⟩ := zlp_sum (len := len) (n := n.toNat) (w := w.toNat) (by omega) (fun i i0 i1 => hl i i0 (by omega)) n.toNat (Nat.le_refl _)
  obtain ⟨b1, b2, b3, -, b5⟩ := zlp_b (len := len) (n := n.toNat) (w := w.toNat) (by omega) (fun i i0 i1 => hl i i0 (by omega)) n.toNat (Nat.le_refl _)
  have hlaid : ∀ k : Int, 0 ≤ k → k < n → 0 ≤ (zlp len n.toNat w.toNat n.toNat).2.1 k := fun k k0 k1 => Classical.byContradiction (fun q => by
    have := zsum_lt (f := fun k => if 0 ≤ (zlp len n.toNat w.toNat n.toNat).2.1 k then (1 : Int) else 0) (g := fun _ => 1) (a := k) (n := n.toNat) (fun i _ _ => by
      show (if 0 ≤ (zlp len n.toNat w.toNat n.toNat).2.1 i then (1 : Int) else 0) ≤ 1
      split <;> omega) k0 (by omega) (by
      show (if 0 ≤ (zlp len n.toNat w.toNat n.toNat).2.1 k then (1 : Int) else 0) + 1 ≤ 1
      rw [if_neg q]
      omega)
    have := zsum_bounds (a := 1) (b := 1) (n := n.toNat) (f := fun _ => 1) (fun _ _ _ => by omega)
    omega)
  have fitk : Fit len n w (zlp len n.toNat w.toNat n.toNat).2.2 n.toNat ld := by
    refine Fit_of (a := (zlp len n.toNat w.toNat n.toNat).2.1) (fun i i0 i1 => by have := hl i i0 i1; omega) (fun k k0 k1 => ⟨hlaid k k0 k1, by have := b5 k; omega⟩) n.toNat ld (by omega) (fun l l0 l1 => ?_)
    rw [h0 l l0 (by omega), Int.zero_add]
    refine Int.le_trans (Int.le_of_eq ?_) (s1 l l0).2
    rw [(s1 l l0).1]
    refine zsum_congr (fun k k0 k1 => ?_)
    show (if n - (n.toNat : Int) ≤ k ∧ (zlp len n.toNat w.toNat n.toNat).2.1 k = l then len k else 0) = if (zlp len n.toNat w.toNat n.toNat).2.1 k = l then len k else 0
    by_cases q : (zlp len n.toNat w.toNat n.toNat).2.1 k = l
    · rw [if_pos q, if_pos ⟨by omega, q⟩]
    · rw [if_neg q, if_neg (fun y => q y.2)]
  generalize hkn : (zlp len n.toNat w.toNat n.toNat).2.2 = known at *
  have hk : 0 ≤ known ∧ known ≤ 54 := by omega
  have A := ilTry_spec (len := len) (n := n) (w := w) (by omega) (fun i i0 i1 => (hl i i0 i1).1) n.toNat ld 0 known 0 (by omega) (hpf w hw.2 ld h0)
  generalize hwd : (if w < n then w else n) = wd at *
  have hwd1 : 1 ≤ wd ∧ wd ≤ w ∧ wd ≤ n ∧ (wd = w ∨ wd = n) := by
    rw [← hwd]
    split <;> omega
  have hpow : 0 < wd ^ n.toNat := Int.pow_pos (by omega)
  have B := iMin_spec (len := len) (n := n) (wd := wd) (f := n.toNat) (ld := ld') (wd ^ n.toNat).toNat
  have cast : (((wd ^ n.toNat).toNat : Nat) : Int) = wd ^ n.toNat := Int.toNat_of_nonneg (by omega)
  rw [cast] at B
  have same : ∀ (f : Nat) (W v : Int), W ≤ 8 → ∀ l l' : Int → Int, (∀ x : Int, 0 ≤ x → x < 8 → l x = l' x) → Fit len n W v f l → Fit len n W v f l' := by
    intro f
    induction f with
    | zero => exact fun _ _ _ _ _ _ _ => trivial
    | succ f ih =>
      intro W v hW l l' hll h
      obtain ⟨x, x0, x1, x2, x3⟩ := h
      refine ⟨x, x0, x1, by rw [← hll x x0 (by omega)]; exact x2, ih W v hW _ _ (fun y y0 y1 => ?_) x3⟩
      unfold iAdd
      rw [hll y y0 y1]
  have F : ∀ v, Fit len n w v n.toNat ld ↔ Fit len n wd v n.toNat ld' := fun v => by
    constructor
    · intro h
      have h := same n.toNat w v hw.2 ld ld' (fun x x0 x1 => by rw [h0 x x0 x1, h0' x x0 x1]) h
      rcases hwd1.2.2.2 with q | q
      · rw [q]
        exact h
      · rw [q]
        exact Fit_few (fun i i0 i1 => (hl i i0 i1).1) n.toNat ld' 0 (hpf w hw.2 ld' h0') (by omega) h
    · intro h
      exact same n.toNat w v hw.2 ld' ld (fun x x0 x1 => by rw [h0 x x0 x1, h0' x x0 x1]) (Fit_mono hwd1.2.1 n.toNat ld' h)
  have C : ∀ v, v < 100000 → (iMin len n wd n.toNat ld' (wd ^ n.toNat).toNat ≤ v ↔ (0 ≤ v ∧ Fit len n w v n.toNat ld)) := fun v hv => by
    rw [B.2 v hv, iE_fit hwd1.1, F v]
  generalize iMin len n wd n.toNat ld' (wd ^ n.toNat).toNat = y at *
  generalize ilTry len n w n.toNat ld 0 known = x at *
  have yk : y ≤ known := (C known (by omega)).mpr ⟨hk.1, fitk⟩
  by_cases q : x < y
  · have := (C x (by omega)).mpr ((A.2 x (by omega)).mp (Int.le_refl _))
    omega
  · by_cases q2 : y < x
    · have := (A.2 y (by omega)).mpr ((C y (by omega)).mp (Int.le_refl _))
      omega
    · omega
