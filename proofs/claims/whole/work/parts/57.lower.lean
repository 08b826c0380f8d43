/-! what no plan can be shorter than -/
theorem zsum_add (f g : Int → Int) : ∀ n : Nat, zsum (fun i => f i + g i) n = zsum f n + zsum g n := by
  intro n
  induction n with
  | zero => rfl
  | succ n ih =>
    show zsum (fun i => f i + g i) n + (f n + g n) = zsum f n + f n + (zsum g n + g n)
    rw [ih]
    omega
theorem zsum_zero : ∀ n : Nat, zsum (fun _ => 0) n = 0 := by
  intro n
  induction n with
  | zero => rfl
  | succ n ih =>
    show zsum (fun _ => 0) n + 0 = 0
    rw [ih]
    rfl
theorem zsum_swap (f : Int → Int → Int) (n : Nat) : ∀ m : Nat, zsum (fun t => zsum (fun c => f c t) n) m = zsum (fun c => zsum (fun t => f c t) m) n := by
  intro m
  induction m with
  | zero => exact (zsum_zero n).symm
  | succ m ih =>
    show zsum (fun t => zsum (fun c => f c t) n) m + zsum (fun c => f c m) n = zsum (fun c => zsum (fun t => f c t) m + f c m) n
    rw [ih, zsum_add]
theorem zind (v a b : Int) : ∀ m : Nat, 0 ≤ a → a ≤ b → b ≤ m → zsum (fun t => if a ≤ t ∧ t < b then v else 0) m = v * (b - a) := by
  intro m
  induction m generalizing b with
  | zero =>
    intro h0 h1 h2
    have : b - a = 0 := by omega
    rw [this, Int.mul_zero]
    rfl
  | succ m ih =>
    intro h0 h1 h2
    show zsum (fun t => if a ≤ t ∧ t < b then v else 0) m + (if a ≤ (m : Int) ∧ (m : Int) < b then v else 0) = v * (b - a)
    by_cases q : b ≤ m
    · rw [ih b h0 h1 q, if_neg (fun z => by omega), Int.add_zero]
    · by_cases q2 : a ≤ m
      · rw [if_pos ⟨q2, by omega⟩, zsum_congr (g := fun t => if a ≤ t ∧ t < (m : Int) then v else 0) (fun i i0 i1 => by
          show (if a ≤ i ∧ i < b then v else 0) = (if a ≤ i ∧ i < (m : Int) then v else 0)
          by_cases z : a ≤ i
          · rw [if_pos ⟨z, by omega⟩, if_pos ⟨z, i1⟩]
          · rw [if_neg (fun y => z y.1), if_neg (fun y => z y.1)]), ih m h0 q2 (by omega), show b - a = ((m : Int) - a) + 1 by omega, Int.mul_add, Int.mul_one]
      · rw [if_neg (fun z => q2 z.1), zsum_congr (g := fun _ => 0) (fun i i0 i1 => if_neg (fun z => by omega)), zsum_zero, show b - a = 0 by omega, Int.mul_zero]
        rfl
theorem zminf_le (f : Int → Int) : ∀ (n : Nat) (w : Int), 1 ≤ w → w ≤ n → zminf f n ≤ f w := by
  intro n
  induction n with
  | zero => intro w h0 h1; omega
  | succ n ih =>
    intro w h0 h1
    show min (zminf f n) (f (n + 1)) ≤ f w
    by_cases e : w = n + 1
    · rw [e]
      exact Int.min_le_right _ _
    · have := ih w h0 (by omega)
      omega
theorem zmxf_le {P : Int → Bool} {v : Int → Int} {B : Int} (hB : 0 ≤ B) : ∀ n : Nat, (∀ i : Int, 0 ≤ i → i < n → P i = true → v i ≤ B) → zmxf P v n ≤ B := by
  intro n
  induction n with
  | zero => exact fun _ => hB
  | succ n ih =>
    intro h
    have i := ih (fun i i0 i1 => h i i0 (by omega))
    have hs := zmxf_succ P v (c := (n : Int)) (by omega)
    rw [show ((n : Int) + 1).toNat = n + 1 by omega, show ((n : Int)).toNat = n by omega] at hs
    rw [hs]
    by_cases q : P n = true
    · rw [if_pos q]
      have := h n (by omega) (by omega) q
      omega
    · rw [if_neg q]
      exact i
theorem sLen_ge {S : zS} : ∀ n : Nat, 0 ≤ sLen S n ∧ ∀ c : Int, 0 ≤ c → c < n → 0 < sW S c → sU S c ≤ sLen S n := by
  intro n
  induction n with
  | zero => exact ⟨Int.le_refl _, fun c c0 c1 => absurd c1 (by omega)⟩
  | succ n ih =>
    show 0 ≤ (if 0 < sW S n then max (sLen S n) (sU S n) else sLen S n) ∧ ∀ c : Int, 0 ≤ c → c < ((n + 1 : Nat) : Int) → 0 < sW S c → sU S c ≤ (if 0 < sW S n then max (sLen S n) (sU S n) else sLen S n)
    by_cases q : 0 < sW S n
    · rw [if_pos q]
      refine ⟨by omega, fun c c0 c1 h => ?_⟩
      by_cases e : c = n
      · rw [e]
        omega
      · have := ih.2 c c0 (by omega) h
        omega
    · rw [if_neg q]
      refine ⟨ih.1, fun c c0 c1 h => ?_⟩
      by_cases e : c = n
      · rw [e] at h
        exact absurd h q
      · exact ih.2 c c0 (by omega) h
theorem sLen_le {S : zS} {B : Int} (hB : 0 ≤ B) : ∀ n : Nat, (∀ c : Int, 0 ≤ c → c < n → 0 < sW S c → sU S c ≤ B) → sLen S n ≤ B := by
  intro n
  induction n with
  | zero => exact fun _ => hB
  | succ n ih =>
    intro h
    have i := ih (fun c c0 c1 => h c c0 (by omega))
    show (if 0 < sW S n then max (sLen S n) (sU S n) else sLen S n) ≤ B
    by_cases q : 0 < sW S n
    · rw [if_pos q]
      have := h n (by omega) (by omega) q
      omega
    · rw [if_neg q]
      exact i
/-- nothing is too much, and each stands behind those ahead of it -/
def zFs (S : zS) : Prop := (∀ s : Int, sUse S 0 s ≤ sL S ∧ sUse S 1 s ≤ sP S) ∧ ∀ c : Int, 0 ≤ c → c < sN S → 0 < sW S c → ∀ a : Int, 0 ≤ a → a < sN S → sA S a c = true → 0 < sW S a ∧ sU S a ≤ sF S c
theorem zmul_up {A L l : Int} (hL : 1 ≤ L) (h : A ≤ L * l) : (A + L - 1) / L ≤ l := by
  have h1 : (l + 1) * L = L * l + L := by rw [Int.add_mul, Int.one_mul, Int.mul_comm]
  have h2 : (A + L - 1) / L < l + 1 := Int.ediv_lt_of_lt_mul (by omega) (by rw [h1]; omega)
  omega
/-- what is used, all cycles together -/
theorem zused {S : zS} (h : zGd S) (hall : ∀ c : Int, 0 ≤ c → c < sN S → 0 < sW S c) (v : Int → Int) (what : Int) (hv : ∀ c, (if what = 0 then sW S c else if what = 1 then sD S c else zishl 1 c) = v c) : zsum (fun t => sUse S what t) (sLen S (sN S).toNat).toNat = zsum (fun c => v c * sT S c (sW S c)) (sN S).toNat := by
  have lg := sLen_ge (S := S) (sN S).toNat
  have hN := h.1
  have e : (fun t => sUse S what t) = fun t => zsum (fun c => if 0 < sW S c ∧ sF S c ≤ t ∧ t < sU S c then v c else 0) (sN S).toNat := funext fun t => zsum_congr (fun c c0 c1 => by show (if 0 < sW S c ∧ sF S c ≤ t ∧ t < sU S c then (if what = 0 then sW S c else if what = 1 then sD S c else zishl 1 c) else 0) = _; rw [hv c])
  rw [e, zsum_swap]
  refine zsum_congr (fun c c0 c1 => ?_)
  have pc := hall c c0 (by omega)
  obtain ⟨g1, g2, g3, g4, g5⟩ := h.2.2.2 c c0 (by omega)
  have q := g5 pc
  have gT := g2 (sW S c) (by omega) g4.2
  have lu := lg.2 c c0 (by omega) pc
  show zsum (fun t => if 0 < sW S c ∧ sF S c ≤ t ∧ t < sU S c then v c else 0) _ = v c * sT S c (sW S c)
  rw [zsum_congr (g := fun t => if sF S c ≤ t ∧ t < sU S c then v c else 0) (fun t _ _ => by
    show (if 0 < sW S c ∧ sF S c ≤ t ∧ t < sU S c then v c else 0) = (if sF S c ≤ t ∧ t < sU S c then v c else 0)
    by_cases z : sF S c ≤ t ∧ t < sU S c
    · rw [if_pos ⟨pc, z⟩, if_pos z]
    · rw [if_neg (fun y => z y.2), if_neg z]), zind _ _ _ _ q.1.1 (by omega) (by omega), q.2, show sF S c + sT S c (sW S c) - sF S c = sT S c (sW S c) by omega]
theorem sGreat_le {S : zS} (h : zGd S) (hf : zFs S) (hall : ∀ c : Int, 0 ≤ c → c < sN S → 0 < sW S c) : sGreat S ≤ sLen S (sN S).toNat := by
  have lg := sLen_ge (S := S) (sN S).toNat
  have hN := h.1
  have hL := h.2.1
  have hP := h.2.2.1
  have tot : ∀ (what M : Int), (∀ s, sUse S what s ≤ M) → (what = 0 ∨ what = 1) → zsum (fun t => sUse S what t) (sLen S (sN S).toNat).toNat ≤ M * sLen S (sN S).toNat := fun what M hM h01 => by
    have := (zsum_bounds (a := 0) (b := M) (n := (sLen S (sN S).toNat).toNat) (f := fun t => sUse S what t) (fun t _ _ => ⟨sUse_nn h h01 t, hM t⟩)).2
    rw [Int.toNat_of_nonneg lg.1, Int.mul_comm] at this
    exact this
  have sl : ∀ c : Int, 0 ≤ c → c < sN S → sLeast S c ≤ sT S c (sW S c) := fun c c0 c1 => by
    have g := (h.2.2.2 c c0 c1).2.2.2.1
    have := hall c c0 c1
    exact zminf_le _ _ _ (by omega) (by omega)
  have area : sArea S ≤ sLen S (sN S).toNat := by
    refine zmul_up hL.1 (Int.le_trans ?_ (tot 0 (sL S) (fun s => (hf.1 s).1) (Or.inl rfl)))
    rw [zused h hall (sW S) 0 (fun c => if_pos rfl)]
    refine zsum_mono (fun c c0 c1 => ?_)
    have g := (h.2.2.2 c c0 (by omega)).2.2.2.1
    have := hall c c0 (by omega)
    exact zminf_le (fun w => w * sT S c w) _ _ (by omega) (by omega)
  have drawn : sDrawn S ≤ sLen S (sN S).toNat := by
    refine zmul_up hP.1 (Int.le_trans ?_ (tot 1 (sP S) (fun s => (hf.1 s).2) (Or.inr rfl)))
    rw [zused h hall (sD S) 1 (fun c => by rw [if_neg (by decide), if_pos rfl])]
    refine zsum_mono (fun c c0 c1 => ?_)
    have g := (h.2.2.2 c c0 (by omega)).1
    have := Int.mul_le_mul_of_nonneg_right (sl c c0 (by omega)) (show 0 ≤ sD S c by omega)
    rw [Int.mul_comm (sD S c)]
    exact this
  have path : sPath S ≤ sLen S (sN S).toNat := by
    have up : ∀ n : Nat, (n : Int) ≤ sN S → ∀ x : Int, 0 ≤ x → x < n → zup (sA S) (sLeast S) n x ≤ sU S x := by
      intro n
      induction n with
      | zero => intro _ x h0 h1; omega
      | succ n ih =>
        intro hn x h0 h1
        have hs := zup_succ (sA S) (sLeast S) (c := (n : Int)) (by omega) x
        rw [show ((n : Int) + 1).toNat = n + 1 by omega, show ((n : Int)).toNat = n by omega] at hs
        rw [hs]
        by_cases e : x = n
        · rw [if_pos e, e]
          obtain ⟨g1, g2, g3, g4, g5⟩ := h.2.2.2 n (by omega) (by omega)
          have pn := hall n (by omega) (by omega)
          have q := g5 pn
          have m := zmxf_le (P := fun a => sA S a n) (v := zup (sA S) (sLeast S) n) (B := sF S n) q.1.1 n (fun i i0 i1 hi => by
            have := (hf.2 n (by omega) (by omega) pn i i0 (by omega) hi).2
            have := ih (by omega) i i0 i1
            omega)
          have := sl n (by omega) (by omega)
          omega
        · rw [if_neg e]
          exact ih (by omega) x h0 (by omega)
    exact zmxf_le lg.1 _ (fun i i0 i1 _ => by
      have := up (sN S).toNat (by omega) i i0 i1
      have := lg.2 i i0 i1 (hall i i0 (by omega))
      omega)
  unfold sGreat
  omega
