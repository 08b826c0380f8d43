/-! plans that agree where it matters -/
theorem zfirst_congr {P Q : Int → Bool} : ∀ {n : Nat}, (∀ i : Int, 0 ≤ i → i < n → P i = Q i) → zfirst P n = zfirst Q n := by
  intro n
  induction n with
  | zero => intro _; rfl
  | succ n ih =>
    intro h
    show (if zfirst P n = -4 then (if P n then (n : Int) else -4) else zfirst P n) = (if zfirst Q n = -4 then (if Q n then (n : Int) else -4) else zfirst Q n)
    rw [ih (fun i h0 h1 => h i h0 (by omega)), h n (by omega) (by omega)]
def zAg (S S' : zS) : Prop := sN S = sN S' ∧ sL S = sL S' ∧ sP S = sP S' ∧ ∀ c : Int, 0 ≤ c → c < sN S → sD S c = sD S' c ∧ (∀ w : Int, 1 ≤ w → w ≤ sL S → sT S c w = sT S' c w) ∧ (∀ a : Int, 0 ≤ a → a < sN S → sA S a c = sA S' a c) ∧ sW S c = sW S' c ∧ (0 < sW S c → sF S c = sF S' c ∧ sU S c = sU S' c)
theorem zAg_refl (S : zS) : zAg S S := ⟨rfl, rfl, rfl, fun _ _ _ => ⟨rfl, fun _ _ _ => rfl, fun _ _ _ => rfl, rfl, fun _ => ⟨rfl, rfl⟩⟩⟩
theorem zAg_symm {S S' : zS} (h : zAg S S') : zAg S' S := by
  obtain ⟨h1, h2, h3, h4⟩ := h
  refine ⟨h1.symm, h2.symm, h3.symm, fun c c0 c1 => ?_⟩
  rw [← h1] at c1
  obtain ⟨g1, g2, g3, g4, g5⟩ := h4 c c0 c1
  exact ⟨g1.symm, fun w w0 w1 => (g2 w w0 (by rw [h2]; exact w1)).symm, fun a a0 a1 => (g3 a a0 (by rw [h1]; exact a1)).symm, g4.symm, fun q => by rw [← g4] at q; exact ⟨(g5 q).1.symm, (g5 q).2.symm⟩⟩
theorem zAg_trans {S S' S'' : zS} (h : zAg S S') (k : zAg S' S'') : zAg S S'' := by
  obtain ⟨h1, h2, h3, h4⟩ := h
  obtain ⟨k1, k2, k3, k4⟩ := k
  refine ⟨h1.trans k1, h2.trans k2, h3.trans k3, fun c c0 c1 => ?_⟩
  obtain ⟨g1, g2, g3, g4, g5⟩ := h4 c c0 c1
  obtain ⟨j1, j2, j3, j4, j5⟩ := k4 c c0 (by rw [← h1]; exact c1)
  exact ⟨g1.trans j1, fun w w0 w1 => (g2 w w0 w1).trans (j2 w w0 (by rw [← h2]; exact w1)), fun a a0 a1 => (g3 a a0 a1).trans (j3 a a0 (by rw [← h1]; exact a1)), g4.trans j4, fun q => ⟨(g5 q).1.trans (j5 (by rw [← g4]; exact q)).1, (g5 q).2.trans (j5 (by rw [← g4]; exact q)).2⟩⟩
theorem sUse_ag {S S' : zS} (h : zAg S S') (what t : Int) : sUse S what t = sUse S' what t := by
  obtain ⟨h1, h2, h3, h4⟩ := h
  unfold sUse
  rw [← h1]
  refine zsum_congr (fun c c0 c1 => ?_)
  obtain ⟨g1, g2, g3, g4, g5⟩ := h4 c c0 (by omega)
  by_cases q : 0 < sW S c
  · obtain ⟨q1, q2⟩ := g5 q
    rw [g1, g4, q1, q2]
  · rw [if_neg (fun z => q z.1), if_neg (fun z => q (by rw [g4]; exact z.1))]
theorem sOver_ag {S S' : zS} (h : zAg S S') (what most t en : Int) : sOver S what most t en = sOver S' what most t en := by
  unfold sOver
  rw [show (fun i => decide (most < sUse S what (t + i))) = (fun i => decide (most < sUse S' what (t + i))) from funext fun i => by rw [sUse_ag h]]
theorem sNot_ag {S S' : zS} (h : zAg S S') {c : Int} (t : Int) (c0 : 0 ≤ c) (c1 : c < sN S) : sNot S c t = sNot S' c t := by
  obtain ⟨h1, h2, h3, h4⟩ := h
  unfold sNot
  rw [← h1]
  refine zfirst_congr (fun a a0 a1 => ?_)
  obtain ⟨g1, g2, g3, g4, g5⟩ := h4 a a0 (by omega)
  rw [(h4 c c0 c1).2.2.1 a a0 (by omega), g4]
  by_cases q : 0 < sW S a
  · rw [(g5 q).2]
  · rw [g4] at q
    rw [decide_eq_true q, Bool.true_or, Bool.true_or]
theorem sBeg_ag {S S' : zS} (h : zAg S S') {c : Int} (en : Int) (c0 : 0 ≤ c) (c1 : c < sN S) : sBeg S c en = sBeg S' c en := by
  obtain ⟨h1, h2, h3, h4⟩ := h
  unfold sBeg
  rw [← h1]
  refine zfirst_congr (fun b b0 b1 => ?_)
  obtain ⟨g1, g2, g3, g4, g5⟩ := h4 b b0 (by omega)
  rw [g3 c c0 c1, g4]
  by_cases q : 0 < sW S b
  · rw [(g5 q).1]
  · rw [g4] at q
    rw [decide_eq_false q, Bool.false_and, Bool.false_and]
theorem sRea_ag {S S' : zS} (h : zAg S S') {c w : Int} (t : Int) (c0 : 0 ≤ c) (c1 : c < sN S) (w0 : 1 ≤ w) (w1 : w ≤ sL S) : sRea S c w t = sRea S' c w t := by
  obtain ⟨h1, h2, h3, h4⟩ := id h
  obtain ⟨g1, g2, g3, g4, g5⟩ := h4 c c0 c1
  unfold sRea
  rw [sNot_ag h t c0 c1, g2 w w0 w1, sBeg_ag h _ c0 c1, sOver_ag h, sOver_ag h, h2, h3, g1]
theorem sTold_ag {S S' : zS} (h : zAg S S') {c w : Int} (r t : Int) (c0 : 0 ≤ c) (c1 : c < sN S) (w0 : 1 ≤ w) (w1 : w ≤ sL S) : sTold S r c w t = sTold S' r c w t := by
  obtain ⟨h1, h2, h3, h4⟩ := id h
  obtain ⟨g1, g2, g3, g4, g5⟩ := h4 c c0 c1
  unfold sTold
  rw [sNot_ag h t c0 c1, g2 w w0 w1, sBeg_ag h _ c0 c1, sOver_ag h, sOver_ag h, h2, h3, g1]
theorem sSoon_ag {S S' : zS} (h : zAg S S') {c w : Int} (y : Int) (c0 : 0 ≤ c) (c1 : c < sN S) (w0 : 1 ≤ w) (w1 : w ≤ sL S) : sSoon S c w y = sSoon S' c w y := by
  unfold sSoon
  rw [(h.2.2.2 c c0 c1).2.1 w w0 w1, show (fun t => decide (sRea S c w t = 0)) = (fun t => decide (sRea S' c w t = 0)) from funext fun t => by rw [sRea_ag h t c0 c1 w0 w1]]
theorem sFl_ag {S S' : zS} (h : zAg S S') {c : Int} (y : Int) (c0 : 0 ≤ c) (c1 : c < sN S) : ∀ n : Nat, (n : Int) ≤ sL S → sFl S c y n = sFl S' c y n := by
  intro n
  induction n with
  | zero => intro _; rfl
  | succ n ih =>
    intro hn
    have e := ih (by omega)
    show (if ¬ sSoon S c (n + 1) (sFl S c y n).2.2 = -4 then ((n + 1 : Int), sSoon S c (n + 1) (sFl S c y n).2.2, sSoon S c (n + 1) (sFl S c y n).2.2 + sT S c (n + 1)) else sFl S c y n) = (if ¬ sSoon S' c (n + 1) (sFl S' c y n).2.2 = -4 then ((n + 1 : Int), sSoon S' c (n + 1) (sFl S' c y n).2.2, sSoon S' c (n + 1) (sFl S' c y n).2.2 + sT S' c (n + 1)) else sFl S' c y n)
    rw [e, sSoon_ag h _ c0 c1 (by omega) (by omega), (h.2.2.2 c c0 c1).2.1 (n + 1) (by omega) (by omega)]
theorem sLen_ag {S S' : zS} (h : zAg S S') : ∀ n : Nat, (n : Int) ≤ sN S → sLen S n = sLen S' n := by
  intro n
  induction n with
  | zero => intro _; rfl
  | succ n ih =>
    intro hn
    have e := ih (by omega)
    obtain ⟨g1, g2, g3, g4, g5⟩ := h.2.2.2 n (by omega) (by omega)
    show (if 0 < sW S n then max (sLen S n) (sU S n) else sLen S n) = (if 0 < sW S' n then max (sLen S' n) (sU S' n) else sLen S' n)
    rw [e]
    by_cases q : 0 < sW S n
    · rw [if_pos q, if_pos (by rw [← g4]; exact q), (g5 q).2]
    · rw [if_neg q, if_neg (by rw [← g4]; exact q)]
theorem sWait_ag {S S' : zS} (h : zAg S S') {c : Int} (c0 : 0 ≤ c) (c1 : c < sN S) : sWait S c = sWait S' c := by
  obtain ⟨h1, h2, h3, h4⟩ := h
  unfold sWait
  rw [← h1]
  refine zfirst_congr (fun a a0 a1 => ?_)
  rw [(h4 c c0 c1).2.2.1 a a0 (by omega), (h4 a a0 (by omega)).2.2.2.1]
theorem sNext_ag {S S' : zS} (h : zAg S S') : sNext S = sNext S' := by
  unfold sNext
  rw [← h.1]
  refine zfirst_congr (fun a a0 a1 => ?_)
  rw [sWait_ag h a0 (by omega), (h.2.2.2 a a0 (by omega)).2.2.2.1]
theorem sPut_ag {S S' : zS} (h : zAg S S') {c w : Int} (t : Int) (c0 : 0 ≤ c) (c1 : c < sN S) (w0 : 1 ≤ w) (w1 : w ≤ sL S) : zAg (sPut S c w t) (sPut S' c w t) := by
  obtain ⟨h1, h2, h3, h4⟩ := h
  refine ⟨h1, h2, h3, fun j j0 j1 => ?_⟩
  obtain ⟨g1, g2, g3, g4, g5⟩ := h4 j j0 j1
  refine ⟨g1, g2, g3, ?_, fun q => ⟨?_, ?_⟩⟩
  · show (if j = c then w else sW S j) = (if j = c then w else sW S' j)
    rw [g4]
  · show (if j = c then t else sF S j) = (if j = c then t else sF S' j)
    by_cases e : j = c
    · rw [if_pos e, if_pos e]
    · have q : 0 < (if j = c then w else sW S j) := q
      rw [if_neg e] at q
      rw [if_neg e, if_neg e, (g5 q).1]
  · show (if j = c then t + sT S c w else sU S j) = (if j = c then t + sT S' c w else sU S' j)
    by_cases e : j = c
    · rw [if_pos e, if_pos e, (h4 c c0 c1).2.1 w w0 w1]
    · have q : 0 < (if j = c then w else sW S j) := q
      rw [if_neg e] at q
      rw [if_neg e, if_neg e, (g5 q).2]
/-- filling, the cores below k looked at: the plan, how many were put, the one it is stuck at (-4) -/
def fRun (S : zS) : Nat → zS × Int × Int
  | 0 => (S, 0, -4)
  | k + 1 => if ¬ (fRun S k).2.2 = -4 ∨ 0 < sW S k then fRun S k else if (sFl (fRun S k).1 k 2000000 (sL S).toNat).1 = 0 then ((fRun S k).1, (fRun S k).2.1, k)
    else (sPut (fRun S k).1 k (sFl (fRun S k).1 k 2000000 (sL S).toNat).1 (sFl (fRun S k).1 k 2000000 (sL S).toNat).2.1, (fRun S k).2.1 + 1, -4)
theorem fRun_succ (S : zS) {k : Int} (h : 0 ≤ k) : fRun S (k + 1).toNat = if ¬ (fRun S k.toNat).2.2 = -4 ∨ 0 < sW S k then fRun S k.toNat else if (sFl (fRun S k.toNat).1 k 2000000 (sL S).toNat).1 = 0 then ((fRun S k.toNat).1, (fRun S k.toNat).2.1, k)
    else (sPut (fRun S k.toNat).1 k (sFl (fRun S k.toNat).1 k 2000000 (sL S).toNat).1 (sFl (fRun S k.toNat).1 k 2000000 (sL S).toNat).2.1, (fRun S k.toNat).2.1 + 1, -4) := by
  rw [show (k + 1).toNat = k.toNat + 1 by omega]
  have e : ((k.toNat : Nat) : Int) = k := Int.toNat_of_nonneg h
  show (if ¬ (fRun S k.toNat).2.2 = -4 ∨ 0 < sW S (k.toNat : Int) then fRun S k.toNat else if (sFl (fRun S k.toNat).1 (k.toNat : Int) 2000000 (sL S).toNat).1 = 0 then ((fRun S k.toNat).1, (fRun S k.toNat).2.1, (k.toNat : Int))
    else (sPut (fRun S k.toNat).1 (k.toNat : Int) (sFl (fRun S k.toNat).1 (k.toNat : Int) 2000000 (sL S).toNat).1 (sFl (fRun S k.toNat).1 (k.toNat : Int) 2000000 (sL S).toNat).2.1, (fRun S k.toNat).2.1 + 1, -4)) = _
  rw [e]
/-- what filling leaves as it was -/
theorem fRun_keep (S : zS) : ∀ k : Nat, (fRun S k).1.1 = S.1 ∧ sD (fRun S k).1 = sD S ∧ sT (fRun S k).1 = sT S ∧ sA (fRun S k).1 = sA S ∧ (∀ j : Int, ((k : Int) ≤ j ∨ 0 < sW S j) → sW (fRun S k).1 j = sW S j ∧ sF (fRun S k).1 j = sF S j ∧ sU (fRun S k).1 j = sU S j) ∧ (0 ≤ (fRun S k).2.1 ∧ (fRun S k).2.1 ≤ k) ∧ ((fRun S k).2.2 = -4 ∨ (0 ≤ (fRun S k).2.2 ∧ (fRun S k).2.2 < k)) := by
  intro k
  induction k with
  | zero => exact ⟨rfl, rfl, rfl, rfl, fun _ _ => ⟨rfl, rfl, rfl⟩, ⟨Int.le_refl _, Int.le_refl _⟩, Or.inl rfl⟩
  | succ k ih =>
    obtain ⟨i1, i2, i3, i4, i5, i6, i7⟩ := ih
    have e : fRun S (k + 1) = if ¬ (fRun S k).2.2 = -4 ∨ 0 < sW S k then fRun S k else if (sFl (fRun S k).1 k 2000000 (sL S).toNat).1 = 0 then ((fRun S k).1, (fRun S k).2.1, (k : Int))
      else (sPut (fRun S k).1 k (sFl (fRun S k).1 k 2000000 (sL S).toNat).1 (sFl (fRun S k).1 k 2000000 (sL S).toNat).2.1, (fRun S k).2.1 + 1, -4) := rfl
    rw [e]
    by_cases q : ¬ (fRun S k).2.2 = -4 ∨ 0 < sW S k
    · rw [if_pos q]
      exact ⟨i1, i2, i3, i4, fun j hj => i5 j (by rcases hj with hj | hj; exact Or.inl (by omega); exact Or.inr hj), by omega, by omega⟩
    · rw [if_neg q]
      by_cases q2 : (sFl (fRun S k).1 k 2000000 (sL S).toNat).1 = 0
      · rw [if_pos q2]
        exact ⟨i1, i2, i3, i4, fun j hj => i5 j (by rcases hj with hj | hj; exact Or.inl (by omega); exact Or.inr hj), by show 0 ≤ (fRun S k).2.1 ∧ (fRun S k).2.1 ≤ ((k + 1 : Nat) : Int); omega, Or.inr (by show 0 ≤ (k : Int) ∧ (k : Int) < ((k + 1 : Nat) : Int); omega)⟩
      · rw [if_neg q2]
        refine ⟨i1, i2, i3, i4, fun j hj => ?_, by show 0 ≤ (fRun S k).2.1 + 1 ∧ (fRun S k).2.1 + 1 ≤ ((k + 1 : Nat) : Int); omega, Or.inl rfl⟩
        have ne : j ≠ k := fun z => by
          subst z
          rcases hj with hj | hj
          · omega
          · exact q (Or.inr hj)
        have g := i5 j (by rcases hj with hj | hj; exact Or.inl (by omega); exact Or.inr hj)
        refine ⟨?_, ?_, ?_⟩
        · show (if j = k then _ else sW (fRun S k).1 j) = _
          rw [if_neg ne]
          exact g.1
        · show (if j = k then _ else sF (fRun S k).1 j) = _
          rw [if_neg ne]
          exact g.2.1
        · show (if j = k then _ else sU (fRun S k).1 j) = _
          rw [if_neg ne]
          exact g.2.2
/-- behind it all cores below k are put, unless it is stuck -/
theorem fRun_put (S : zS) : ∀ k : Nat, (fRun S k).2.2 = -4 → ∀ j : Int, 0 ≤ j → j < k → 0 < sW (fRun S k).1 j := by
  intro k
  induction k with
  | zero => intro _ j h0 h1; omega
  | succ k ih =>
    have e : fRun S (k + 1) = if ¬ (fRun S k).2.2 = -4 ∨ 0 < sW S k then fRun S k else if (sFl (fRun S k).1 k 2000000 (sL S).toNat).1 = 0 then ((fRun S k).1, (fRun S k).2.1, (k : Int))
      else (sPut (fRun S k).1 k (sFl (fRun S k).1 k 2000000 (sL S).toNat).1 (sFl (fRun S k).1 k 2000000 (sL S).toNat).2.1, (fRun S k).2.1 + 1, -4) := rfl
    rw [e]
    by_cases q : ¬ (fRun S k).2.2 = -4 ∨ 0 < sW S k
    · rw [if_pos q]
      intro h j h0 h1
      by_cases ej : j = k
      · subst ej
        rcases q with q | q
        · exact absurd h q
        · rw [((fRun_keep S k).2.2.2.2.1 k (Or.inr q)).1]
          exact q
      · exact ih h j h0 (by omega)
    · rw [if_neg q]
      by_cases q2 : (sFl (fRun S k).1 k 2000000 (sL S).toNat).1 = 0
      · rw [if_pos q2]
        intro h
        have h : (k : Int) = -4 := h
        omega
      · rw [if_neg q2]
        intro _ j h0 h1
        show 0 < (if j = k then (sFl (fRun S k).1 k 2000000 (sL S).toNat).1 else sW (fRun S k).1 j)
        by_cases ej : j = k
        · rw [if_pos ej]
          have := (sFl_spec (S := (fRun S k).1) (c := k) (y := 2000000) (sL S).toNat).2.2
          rcases this with r | r
          · exact absurd r.1 q2
          · omega
        · rw [if_neg ej]
          exact ih (Classical.byContradiction (fun z => q (Or.inl z))) j h0 (by omega)
theorem fRun_ag {S S' : zS} (h : zAg S S') (hL : 0 ≤ sL S) : ∀ k : Nat, (k : Int) ≤ sN S → zAg (fRun S k).1 (fRun S' k).1 ∧ (fRun S k).2 = (fRun S' k).2 := by
  intro k
  induction k with
  | zero => exact fun _ => ⟨h, rfl⟩
  | succ k ih =>
    intro hk
    obtain ⟨i1, i2⟩ := ih (by omega)
    have e : fRun S (k + 1) = if ¬ (fRun S k).2.2 = -4 ∨ 0 < sW S k then fRun S k else if (sFl (fRun S k).1 k 2000000 (sL S).toNat).1 = 0 then ((fRun S k).1, (fRun S k).2.1, (k : Int))
      else (sPut (fRun S k).1 k (sFl (fRun S k).1 k 2000000 (sL S).toNat).1 (sFl (fRun S k).1 k 2000000 (sL S).toNat).2.1, (fRun S k).2.1 + 1, -4) := rfl
    have e' : fRun S' (k + 1) = if ¬ (fRun S' k).2.2 = -4 ∨ 0 < sW S' k then fRun S' k else if (sFl (fRun S' k).1 k 2000000 (sL S').toNat).1 = 0 then ((fRun S' k).1, (fRun S' k).2.1, (k : Int))
      else (sPut (fRun S' k).1 k (sFl (fRun S' k).1 k 2000000 (sL S').toNat).1 (sFl (fRun S' k).1 k 2000000 (sL S').toNat).2.1, (fRun S' k).2.1 + 1, -4) := rfl
    have hk1 : (fRun S k).1.1 = S.1 := (fRun_keep S k).1
    have kN : sN (fRun S k).1 = sN S := by unfold sN; rw [hk1]
    have kL : sL (fRun S k).1 = sL S := by unfold sL; rw [hk1]
    have ef : sFl (fRun S k).1 k 2000000 (sL S).toNat = sFl (fRun S' k).1 k 2000000 (sL S).toNat := sFl_ag i1 _ (by omega) (by omega) _ (by omega)
    have sp := (sFl_spec (S := (fRun S k).1) (c := k) (y := 2000000) (sL S).toNat).2.2
    rw [e, e', ← i2, ← h.2.1, ← (h.2.2.2 k (by omega) (by omega)).2.2.2.1, ← ef]
    by_cases q : ¬ (fRun S k).2.2 = -4 ∨ 0 < sW S k
    · rw [if_pos q, if_pos q]
      exact ⟨i1, i2⟩
    · rw [if_neg q, if_neg q]
      by_cases q2 : (sFl (fRun S k).1 k 2000000 (sL S).toNat).1 = 0
      · rw [if_pos q2, if_pos q2]
        exact ⟨i1, rfl⟩
      · rw [if_neg q2, if_neg q2]
        refine ⟨sPut_ag i1 _ (by omega) (by omega) ?_ ?_, rfl⟩
        · rcases sp with r | r
          · exact absurd r.1 q2
          · exact r.1
        · rcases sp with r | r
          · exact absurd r.1 q2
          · omega
