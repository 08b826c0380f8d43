/-! good plans; how late a core can come -/
def zGd (S : zS) : Prop := (1 ≤ sN S ∧ sN S ≤ 6) ∧ (1 ≤ sL S ∧ sL S ≤ 8) ∧ (1 ≤ sP S ∧ sP S ≤ 40) ∧ ∀ c : Int, 0 ≤ c → c < sN S → (1 ≤ sD S c ∧ sD S c ≤ 30) ∧ (∀ w : Int, 1 ≤ w → w ≤ sL S → 2 ≤ sT S c w ∧ sT S c w ≤ 2234) ∧ (∀ a : Int, 0 ≤ a → a < sN S → sA S a c = true → a < c) ∧ (0 ≤ sW S c ∧ sW S c ≤ sL S) ∧ (0 < sW S c → (0 ≤ sF S c ∧ sF S c ≤ 99999 + 30000 * c) ∧ sU S c = sF S c + sT S c (sW S c))
theorem zGd_wt {S : zS} (h : zGd S) : sWt S := fun c c0 c1 => by
  have := (h.2.2.2 c c0 c1).1
  omega
theorem zGd_U {S : zS} (h : zGd S) {c : Int} (c0 : 0 ≤ c) (c1 : c < sN S) (hw : 0 < sW S c) : sF S c + 2 ≤ sU S c ∧ sU S c ≤ sF S c + 2234 ∧ 0 ≤ sF S c ∧ sF S c ≤ 99999 + 30000 * c := by
  obtain ⟨g1, g2, g3, g4, g5⟩ := h.2.2.2 c c0 c1
  have q := g5 hw
  have := g2 (sW S c) (by omega) g4.2
  omega
theorem zsum_lt {f g : Int → Int} {a : Int} : ∀ {n : Nat}, (∀ i : Int, 0 ≤ i → i < n → f i ≤ g i) → 0 ≤ a → a < n → f a + 1 ≤ g a → zsum f n + 1 ≤ zsum g n := by
  intro n
  induction n with
  | zero => intro _ h0 h1; omega
  | succ n ih =>
    intro h h0 h1 h2
    have e := h n (by omega) (by omega)
    show zsum f n + f n + 1 ≤ zsum g n + g n
    by_cases q : a = n
    · rw [q] at h2
      have := zsum_mono (n := n) (fun i i0 i1 => h i i0 (by omega))
      omega
    · have := ih (fun i i0 i1 => h i i0 (by omega)) h0 (by omega) h2
      omega
/-- how many end behind X -/
def zcnt (S : zS) (X : Int) : Int := zsum (fun a => if 0 < sW S a ∧ X < sU S a then 1 else 0) (sN S).toNat
theorem zcnt_b (S : zS) (X : Int) : 0 ≤ zcnt S X ∧ zcnt S X ≤ ((sN S).toNat : Int) := by
  have := zsum_bounds (a := 0) (b := 1) (n := (sN S).toNat) (f := fun a => if 0 < sW S a ∧ X < sU S a then 1 else 0) (fun i _ _ => by
    show (0 : Int) ≤ (if 0 < sW S i ∧ X < sU S i then 1 else 0) ∧ (if 0 < sW S i ∧ X < sU S i then (1 : Int) else 0) ≤ 1
    split <;> omega)
  unfold zcnt
  omega
theorem zcover {S : zS} {T Y : Int} (hT : T ≤ 2234) (hU : ∀ a : Int, 0 ≤ a → a < sN S → 0 < sW S a → sU S a ≤ sF S a + 2234) : ∀ (m : Nat) (X : Int), zcnt S X ≤ m → (∀ t, X ≤ t → t < Y → ∃ a : Int, 0 ≤ a ∧ a < sN S ∧ 0 < sW S a ∧ sF S a < t + T ∧ t < sU S a) → Y - X ≤ 4468 * m := by
  have step : ∀ X X' a : Int, 0 ≤ a → a < sN S → 0 < sW S a → X < sU S a → X' = sU S a → zcnt S X' + 1 ≤ zcnt S X := fun X X' a a0 a1 a2 a3 a4 => by
    refine zsum_lt (a := a) (fun i i0 i1 => ?_) a0 (by omega) ?_
    · show (if 0 < sW S i ∧ X' < sU S i then (1 : Int) else 0) ≤ (if 0 < sW S i ∧ X < sU S i then 1 else 0)
      by_cases q : 0 < sW S i ∧ X' < sU S i
      · rw [if_pos q, if_pos ⟨q.1, by omega⟩]
        exact Int.le_refl _
      · rw [if_neg q]
        split <;> omega
    · show (if 0 < sW S a ∧ X' < sU S a then (1 : Int) else 0) + 1 ≤ (if 0 < sW S a ∧ X < sU S a then 1 else 0)
      rw [if_neg (fun q => by omega), if_pos ⟨a2, a3⟩]
      omega
  intro m
  induction m with
  | zero =>
    intro X hc h
    by_cases q : Y ≤ X
    · omega
    · obtain ⟨a, a0, a1, a2, a3, a4⟩ := h X (Int.le_refl _) (by omega)
      have g := step X _ a a0 a1 a2 a4 rfl
      have := (zcnt_b S (sU S a)).1
      omega
  | succ m ih =>
    intro X hc h
    by_cases q : Y ≤ X
    · omega
    · obtain ⟨a, a0, a1, a2, a3, a4⟩ := h X (Int.le_refl _) (by omega)
      have g := step X _ a a0 a1 a2 a4 rfl
      have g2 := hU a a0 a1 a2
      have := ih (sU S a) (by omega) (fun t t0 t1 => h t (by omega) t1)
      omega
theorem sUse_pos {S : zS} {what s : Int} (h : 0 < sUse S what s) : ∃ a : Int, 0 ≤ a ∧ a < sN S ∧ 0 < sW S a ∧ sF S a ≤ s ∧ s < sU S a := by
  by_cases q : ∃ a : Int, 0 ≤ a ∧ a < sN S ∧ 0 < sW S a ∧ sF S a ≤ s ∧ s < sU S a
  · exact q
  · have e : sUse S what s = zsum (fun _ => 0) (sN S).toNat := zsum_congr (fun c c0 c1 => if_neg (fun z => q ⟨c, c0, by omega, z⟩))
    have := zsum_bounds (a := 0) (b := 0) (n := (sN S).toNat) (f := fun _ => 0) (fun _ _ _ => by omega)
    omega
theorem sUse_nn {S : zS} (h : zGd S) {what : Int} (h01 : what = 0 ∨ what = 1) (s : Int) : 0 ≤ sUse S what s := by
  have h2 := h.2.2.2
  exact (sUse_b (S := S) (what := what) (t := s) ⟨by have := h.1; omega, h.1.2⟩ (fun c c0 c1 => by have := (h2 c c0 c1).1; omega) (fun c c0 c1 => by have := (h2 c c0 c1).2.2.2.1; have := h.2.1; omega) (by omega)).1
/-- a core comes no later than so -/
theorem sSoon_FB {S : zS} (h : zGd S) {c w y : Int} (c0 : 0 ≤ c) (c1 : c < sN S) (w0 : 1 ≤ w) (w1 : w ≤ sL S) : sSoon S c w y ≤ 99999 + 30000 * c := by
  rcases sSoon_spec (S := S) (c := c) (w := w) (y := y) with ⟨h1, -⟩ | ⟨h1, h2, h3, h4⟩
  · omega
  · generalize sSoon S c w y = ts at *
    obtain ⟨k1, k2, k3, k4⟩ := h3
    have hT := (h.2.2.2 c c0 c1).2.1 w w0 w1
    have hA := (h.2.2.2 c c0 c1).2.2.1
    have hX : ∃ X : Int, 0 ≤ X ∧ X + 26808 ≤ 99999 + 30000 * c ∧ ∀ a : Int, 0 ≤ a → a < sN S → sA S a c = true → sU S a ≤ X := by
      by_cases e : c = 0
      · exact ⟨0, by omega, by omega, fun a a0 a1 a2 => by have := hA a a0 a1 a2; omega⟩
      · refine ⟨72233 + 30000 * c, by omega, by omega, fun a a0 a1 a2 => ?_⟩
        have g := hA a a0 a1 a2
        have := zGd_U h a0 a1 (k1 a a0 a1 a2).1
        omega
    obtain ⟨X, x0, x1, x2⟩ := hX
    have hN := (zcnt_b S X).2
    have hN6 := h.1
    have nP : 0 ≤ sP S - sD S c := by
      have g1 := k4 ts (Int.le_refl _) (by omega)
      have g2 := sUse_nn h (Or.inr rfl) ts
      omega
    have cov := zcover (S := S) (T := sT S c w) (Y := ts) hT.2 (fun a a0 a1 a2 => (zGd_U h a0 a1 a2).2.1) 6 X (by omega) (fun t t0 t1 => by
      have no := h4 t (by omega) t1
      have key : (∃ s, t ≤ s ∧ s < t + sT S c w ∧ 0 < sUse S 0 s) ∨ (∃ s, t ≤ s ∧ s < t + sT S c w ∧ 0 < sUse S 1 s) := by
        refine Classical.byContradiction (fun q => no ⟨fun a a0 a1 a2 => ?_, fun b b0 b1 b2 b3 => ?_, fun s s0 s1 => ?_, fun s s0 s1 => ?_⟩)
        · have g := x2 a a0 a1 a2
          exact ⟨(k1 a a0 a1 a2).1, by omega⟩
        · have := k2 b b0 b1 b2 b3
          omega
        · by_cases z : 0 < sUse S 0 s
          · exact absurd (Or.inl ⟨s, s0, s1, z⟩) q
          · omega
        · by_cases z : 0 < sUse S 1 s
          · exact absurd (Or.inr ⟨s, s0, s1, z⟩) q
          · omega
      rcases key with ⟨s, s0, s1, s2⟩ | ⟨s, s0, s1, s2⟩
      · obtain ⟨a, a0, a1, a2, a3, a4⟩ := sUse_pos s2
        exact ⟨a, a0, a1, a2, by omega, by omega⟩
      · obtain ⟨a, a0, a1, a2, a3, a4⟩ := sUse_pos s2
        exact ⟨a, a0, a1, a2, by omega, by omega⟩)
    omega
theorem sFl_FB {S : zS} (h : zGd S) {c y : Int} (c0 : 0 ≤ c) (c1 : c < sN S) : ∀ n : Nat, (n : Int) ≤ sL S → (sFl S c y n).2.1 ≤ 99999 + 30000 * c := by
  intro n
  induction n with
  | zero =>
    intro _
    show (0 : Int) ≤ _
    omega
  | succ n ih =>
    intro hn
    have h1 := ih (by omega)
    show (if ¬ sSoon S c (n + 1) (sFl S c y n).2.2 = -4 then ((n + 1 : Int), sSoon S c (n + 1) (sFl S c y n).2.2, sSoon S c (n + 1) (sFl S c y n).2.2 + sT S c (n + 1)) else sFl S c y n).2.1 ≤ _
    split
    · exact sSoon_FB h c0 c1 (by omega) (by omega)
    · exact h1
theorem sPut_gd {S : zS} (h : zGd S) {c w t : Int} (w0 : 1 ≤ w) (w1 : w ≤ sL S) (t0 : 0 ≤ t) (t1 : t ≤ 99999 + 30000 * c) : zGd (sPut S c w t) := by
  obtain ⟨h1, h2, h3, h4⟩ := h
  refine ⟨h1, h2, h3, fun j j0 j1 => ?_⟩
  obtain ⟨g1, g2, g3, g4, g5⟩ := h4 j j0 j1
  refine ⟨g1, g2, g3, ?_, ?_⟩
  · show 0 ≤ (if j = c then w else sW S j) ∧ (if j = c then w else sW S j) ≤ sL S
    split <;> omega
  · show 0 < (if j = c then w else sW S j) → (0 ≤ (if j = c then t else sF S j) ∧ (if j = c then t else sF S j) ≤ 99999 + 30000 * j) ∧ (if j = c then t + sT S c w else sU S j) = (if j = c then t else sF S j) + sT S j (if j = c then w else sW S j)
    by_cases e : j = c
    · rw [if_pos e, if_pos e, if_pos e, e]
      exact fun _ => ⟨⟨t0, t1⟩, rfl⟩
    · rw [if_neg e, if_neg e, if_neg e]
      exact g5
/-- filling one core keeps it good -/
theorem sFl_gd {S : zS} (h : zGd S) {c y : Int} (c0 : 0 ≤ c) (c1 : c < sN S) (hz : ¬ (sFl S c y (sL S).toNat).1 = 0) : zGd (sPut S c (sFl S c y (sL S).toNat).1 (sFl S c y (sL S).toNat).2.1) := by
  have hL := h.2.1
  rcases (sFl_spec (S := S) (c := c) (y := y) (sL S).toNat).2.2 with r | r
  · exact absurd r.1 hz
  · exact sPut_gd h r.1 (by omega) r.2.2.1 (sFl_FB h c0 c1 _ (by omega))
theorem fRun_gd {S : zS} (h : zGd S) : ∀ k : Nat, (k : Int) ≤ sN S → zGd (fRun S k).1 := by
  intro k
  induction k with
  | zero => exact fun _ => h
  | succ k ih =>
    intro hk
    have i := ih (by omega)
    have hk1 : (fRun S k).1.1 = S.1 := (fRun_keep S k).1
    have kN : sN (fRun S k).1 = sN S := by unfold sN; rw [hk1]
    have kL : sL (fRun S k).1 = sL S := by unfold sL; rw [hk1]
    have e : fRun S (k + 1) = if ¬ (fRun S k).2.2 = -4 ∨ 0 < sW S k then fRun S k else if (sFl (fRun S k).1 k 2000000 (sL S).toNat).1 = 0 then ((fRun S k).1, (fRun S k).2.1, (k : Int))
      else (sPut (fRun S k).1 k (sFl (fRun S k).1 k 2000000 (sL S).toNat).1 (sFl (fRun S k).1 k 2000000 (sL S).toNat).2.1, (fRun S k).2.1 + 1, -4) := rfl
    rw [e]
    by_cases q : ¬ (fRun S k).2.2 = -4 ∨ 0 < sW S k
    · rw [if_pos q]
      exact i
    · rw [if_neg q]
      by_cases q2 : (sFl (fRun S k).1 k 2000000 (sL S).toNat).1 = 0
      · rw [if_pos q2]
        exact i
      · rw [if_neg q2]
        rw [← kL] at q2 ⊢
        exact sFl_gd i (by omega) (by omega) q2
/-- of a good plan the next core is the lowest that is not put -/
theorem sNext_low {S : zS} (h : zGd S) : (sNext S = -4 ∧ ∀ c : Int, 0 ≤ c → c < sN S → 0 < sW S c) ∨ (0 ≤ sNext S ∧ sNext S < sN S ∧ ¬ 0 < sW S (sNext S) ∧ ∀ c : Int, 0 ≤ c → c < sNext S → 0 < sW S c) := by
  have hN := h.1
  have low : ∀ m : Nat, (m : Int) ≤ sN S → (∀ c : Int, 0 ≤ c → c < m → 0 < sW S c) ∨ ∃ c : Int, 0 ≤ c ∧ c < m ∧ ¬ 0 < sW S c ∧ ∀ a : Int, 0 ≤ a → a < c → 0 < sW S a := by
    intro m
    induction m with
    | zero => exact fun _ => Or.inl (fun c c0 c1 => absurd c1 (by omega))
    | succ m ih =>
      intro hm
      rcases ih (by omega) with g | ⟨c, g0, g1, g2, g3⟩
      · by_cases q : 0 < sW S m
        · refine Or.inl (fun c c0 c1 => ?_)
          by_cases e : c = m
          · rw [e]
            exact q
          · exact g c c0 (by omega)
        · exact Or.inr ⟨m, by omega, by omega, q, g⟩
      · exact Or.inr ⟨c, g0, by omega, g2, g3⟩
  have hall := low (sN S).toNat (by omega)
  unfold sNext
  rcases hall with g | ⟨c, g0, g1, g2, g3⟩
  · refine Or.inl ⟨zfirst_none (fun i i0 i1 => ?_), fun c c0 c1 => g c c0 (by omega)⟩
    rw [decide_eq_false (fun z => z (g i i0 i1)), Bool.false_and]
  · have e : zfirst (fun c => decide (¬ 0 < sW S c) && decide (sWait S c = -4)) (sN S).toNat = c := by
      refine zfirst_some g0 g1 ?_ (fun i i0 i1 => ?_)
      · rw [decide_eq_true g2, Bool.true_and]
        exact decide_eq_true (sWait_iff.mpr (fun a a0 a1 a2 => g3 a a0 ((h.2.2.2 c g0 (by omega)).2.2.1 a a0 a1 a2)))
      · rw [decide_eq_false (fun z => z (g3 i i0 i1)), Bool.false_and]
    rw [e]
    exact Or.inr ⟨g0, by omega, g2, g3⟩
