/-! the soonest by candidates; the filling of one core -/
theorem sOk_iff4 {S : zS} {c w t : Int} (ht : 0 ≤ t) : sOk S c w t ↔ sNot S c t = -4 ∧ sBeg S c (t + sT S c w) = -4 ∧ sOver S 0 (sL S - w) t (t + sT S c w) = -4 ∧ sOver S 1 (sP S - sD S c) t (t + sT S c w) = -4 := by
  unfold sOk
  rw [← sNot_iff, ← sBeg_iff, ← sOver_iff ht, ← sOver_iff ht]
def sTj (U : Int → Int) (j : Int) : Int := if j < 0 then 0 else U j
/-- the search for the soonest, the candidates ahead of i looked at -/
def sInv (S : zS) (c w y f i : Int) : Prop := (f = -4 ∧ ∀ j : Int, -1 ≤ j → j < i → sTj (sU S) j + sT S c w < y → ¬ sOk S c w (sTj (sU S) j)) ∨ (0 ≤ f ∧ f + sT S c w < y ∧ sOk S c w f ∧ ∀ j : Int, -1 ≤ j → j < i → sTj (sU S) j + sT S c w < y → sOk S c w (sTj (sU S) j) → f ≤ sTj (sU S) j)
theorem sInv_keep {S : zS} {c w y f i : Int} (h : sInv S c w y f i) (hq : y ≤ sTj (sU S) i + sT S c w ∨ (f ≠ -4 ∧ f ≤ sTj (sU S) i) ∨ ¬ sOk S c w (sTj (sU S) i)) : sInv S c w y f (i + 1) := by
  rcases h with ⟨h0, h⟩ | ⟨h0, h1, h2, h⟩
  · refine Or.inl ⟨h0, fun j g0 g1 g2 g3 => ?_⟩
    by_cases e : j = i
    · subst e
      rcases hq with q | q | q
      · omega
      · exact q.1 h0
      · exact q g3
    · exact h j g0 (by omega) g2 g3
  · refine Or.inr ⟨h0, h1, h2, fun j g0 g1 g2 g3 => ?_⟩
    by_cases e : j = i
    · subst e
      rcases hq with q | q | q
      · omega
      · exact q.2
      · exact absurd g3 q
    · exact h j g0 (by omega) g2 g3
theorem sInv_new {S : zS} {c w y f i : Int} (h : sInv S c w y f i) (h0 : 0 ≤ sTj (sU S) i) (h1 : sTj (sU S) i + sT S c w < y) (h2 : sOk S c w (sTj (sU S) i)) (h3 : f = -4 ∨ sTj (sU S) i < f) : sInv S c w y (sTj (sU S) i) (i + 1) := by
  refine Or.inr ⟨h0, h1, h2, fun j g0 g1 g2 g3 => ?_⟩
  by_cases e : j = i
  · rw [e]
    exact Int.le_refl _
  · rcases h with ⟨k0, h⟩ | ⟨k0, k1, k2, h⟩
    · exact absurd g3 (h j g0 (by omega) g2)
    · have := h j g0 (by omega) g2 g3
      omega
theorem sInv_end {S : zS} {c w y f : Int} (h : sInv S c w y f (sN S)) (hw : sWt S) (hT : 1 ≤ sT S c w) (hN : 0 ≤ sN S) (hU : ∀ a : Int, 0 ≤ a → a < sN S → 0 < sW S a → 0 ≤ sU S a) : f = sSoon S c w y := by
  have cand : ∀ t, (t = 0 ∨ ∃ a : Int, 0 ≤ a ∧ a < sN S ∧ 0 < sW S a ∧ sU S a = t) → ∃ j : Int, -1 ≤ j ∧ j < sN S ∧ sTj (sU S) j = t := by
    intro t ht
    rcases ht with rfl | ⟨a, a0, a1, a2, rfl⟩
    · exact ⟨-1, by omega, by omega, if_pos (by omega)⟩
    · exact ⟨a, by omega, a1, if_neg (by omega)⟩
  refine sSoon_cand hw hT hU ?_
  rcases h with ⟨h0, h⟩ | ⟨h0, h1, h2, h⟩
  · refine Or.inl ⟨h0, fun t ht g => ?_⟩
    obtain ⟨j, j0, j1, rfl⟩ := cand t ht
    exact h j j0 j1 g
  · refine Or.inr ⟨h0, h1, h2, fun t ht g g2 => ?_⟩
    obtain ⟨j, j0, j1, rfl⟩ := cand t ht
    exact h j j0 j1 g g2
theorem sOk_narrow {S : zS} {c w w' t : Int} (h : sOk S c w t) (hw : w' ≤ w) (hT : sT S c w' ≤ sT S c w) : sOk S c w' t := by
  obtain ⟨h1, h2, h3, h4⟩ := h
  refine ⟨h1, fun b b0 b1 b2 b3 => ?_, fun s s0 s1 => ?_, fun s s0 s1 => h4 s s0 (by omega)⟩
  · have := h2 b b0 b1 b2 b3
    omega
  · have := h3 s s0 (by omega)
    omega
/-- what filling has found among the widths up to n -/
theorem sFl_spec {S : zS} {c y : Int} : ∀ n : Nat, (sFl S c y n).2.2 ≤ y ∧ (∀ (w t : Int), 1 ≤ w → w ≤ n → 0 ≤ t → sOk S c w t → (sFl S c y n).2.2 ≤ t + sT S c w) ∧ (((sFl S c y n).1 = 0 ∧ (sFl S c y n).2.2 = y) ∨ (1 ≤ (sFl S c y n).1 ∧ (sFl S c y n).1 ≤ n ∧ 0 ≤ (sFl S c y n).2.1 ∧ sOk S c (sFl S c y n).1 (sFl S c y n).2.1 ∧ (sFl S c y n).2.2 = (sFl S c y n).2.1 + sT S c (sFl S c y n).1 ∧ (sFl S c y n).2.2 < y ∧ (∀ (w t : Int), 1 ≤ w → w < (sFl S c y n).1 → 0 ≤ t → sOk S c w t → (sFl S c y n).2.2 < t + sT S c w))) := by
  intro n
  induction n with
  | zero => exact ⟨Int.le_refl _, fun w t h1 h2 => absurd h2 (by omega), Or.inl ⟨rfl, rfl⟩⟩
  | succ n ih =>
    obtain ⟨i1, i2, i3⟩ := ih
    generalize hz : sFl S c y n = z at i1 i2 i3
    have e : sFl S c y (n + 1) = if ¬ sSoon S c (n + 1) z.2.2 = -4 then ((n + 1 : Int), sSoon S c (n + 1) z.2.2, sSoon S c (n + 1) z.2.2 + sT S c (n + 1)) else z := by
      show (if ¬ sSoon S c (n + 1) (sFl S c y n).2.2 = -4 then ((n + 1 : Int), sSoon S c (n + 1) (sFl S c y n).2.2, sSoon S c (n + 1) (sFl S c y n).2.2 + sT S c (n + 1)) else sFl S c y n) = _
      rw [hz]
    rw [e]
    rcases sSoon_spec (S := S) (c := c) (w := n + 1) (y := z.2.2) with ⟨h1, h2⟩ | ⟨h1, h2, h3, h4⟩
    · rw [if_neg (by omega)]
      refine ⟨i1, fun w t g0 g1 g2 g3 => ?_, ?_⟩
      · by_cases ew : w = n + 1
        · subst ew
          by_cases q : t + sT S c (n + 1) < z.2.2
          · exact absurd g3 (h2 t g2 q)
          · omega
        · exact i2 w t g0 (by omega) g2 g3
      · rcases i3 with i3 | ⟨a1, a2, a3, a4, a5, a6, a7⟩
        · exact Or.inl i3
        · exact Or.inr ⟨a1, by omega, a3, a4, a5, a6, a7⟩
    · rw [if_pos (by omega)]
      generalize sSoon S c (n + 1) z.2.2 = u at *
      refine ⟨by show u + _ ≤ y; omega, fun w t g0 g1 g2 g3 => ?_, Or.inr ⟨by show (1 : Int) ≤ n + 1; omega, by show (n + 1 : Int) ≤ ((n + 1 : Nat) : Int); omega, h1, h3, rfl, by show u + _ < y; omega, fun w t g0 g1 g2 g3 => ?_⟩⟩
      · show u + sT S c (n + 1) ≤ t + sT S c w
        by_cases ew : w = n + 1
        · subst ew
          by_cases q : t < u
          · exact absurd g3 (h4 t g2 q)
          · omega
        · have := i2 w t g0 (by omega) g2 g3
          omega
      · show u + sT S c (n + 1) < t + sT S c w
        have g1 : w < (n + 1 : Int) := g1
        have := i2 w t g0 (by omega) g2 g3
        omega
theorem sFl_skip {S : zS} {c y w : Int} {n : Nat} (h : ∃ w' : Int, 1 ≤ w' ∧ w' ≤ n ∧ sT S c w' ≤ sT S c w ∧ w' ≤ w) : sSoon S c w (sFl S c y n).2.2 = -4 := by
  obtain ⟨w', h1, h2, h3, h4⟩ := h
  refine sSoon_none (fun t g0 g1 g2 => ?_)
  have := (sFl_spec (S := S) (c := c) (y := y) n).2.1 w' t h1 h2 g0 (sOk_narrow g2 h4 h3)
  omega
theorem zu3_eq {I : zMem} {p : Nat} {c w t u : Int} : zu (zu (zu I (p + 2) c w) (p + 3) c t) (p + 4) c u (p + 2) = (fun j => if j = c then w else I (p + 2) j) ∧ zu (zu (zu I (p + 2) c w) (p + 3) c t) (p + 4) c u (p + 3) = (fun j => if j = c then t else I (p + 3) j) ∧ zu (zu (zu I (p + 2) c w) (p + 3) c t) (p + 4) c u (p + 4) = (fun j => if j = c then u else I (p + 4) j) ∧ ∀ b : Nat, b ≠ p + 2 → b ≠ p + 3 → b ≠ p + 4 → zu (zu (zu I (p + 2) c w) (p + 3) c t) (p + 4) c u b = I b := by
  refine ⟨funext fun j => ?_, funext fun j => ?_, funext fun j => ?_, fun b g1 g2 g3 => funext fun j => by rw [zu_na g3, zu_na g2, zu_na g1]⟩
  · rw [zu_na (by omega), zu_na (by omega)]
    unfold zu
    by_cases e : j = c
    · rw [if_pos ⟨rfl, e⟩, if_pos e]
    · rw [if_neg (fun q => e q.2), if_neg e]
  · rw [zu_na (by omega)]
    unfold zu
    by_cases e : j = c
    · rw [if_pos ⟨rfl, e⟩, if_pos e]
    · rw [if_neg (fun q => e q.2), if_neg e, if_neg (fun q => by have := q.1; omega)]
  · unfold zu
    by_cases e : j = c
    · rw [if_pos ⟨rfl, e⟩, if_pos e]
    · rw [if_neg (fun q => e q.2), if_neg e, if_neg (fun q => by have := q.1; omega), if_neg (fun q => by have := q.1; omega)]
theorem cS_put {I : zMem} {p : Nat} {c w t : Int} (hp : p = 64 ∨ p = 86) : cS (zu (zu (zu I (p + 2) c w) (p + 3) c t) (p + 4) c (t + sT (cS I p) c w)) p = sPut (cS I p) c w t := by
  obtain ⟨e1, e2, e3, e⟩ := zu3_eq (I := I) (p := p) (c := c) (w := w) (t := t) (u := t + sT (cS I p) c w)
  have eT : (fun (a v : Int) => if 0 ≤ a ∧ a < 6 then tkOf (zu (zu (zu I (p + 2) c w) (p + 3) c t) (p + 4) c (t + sT (cS I p) c w) (p + 1) a) (zu (zu (zu I (p + 2) c w) (p + 3) c t) (p + 4) c (t + sT (cS I p) c w) 36 a) (zu (zu (zu I (p + 2) c w) (p + 3) c t) (p + 4) c (t + sT (cS I p) c w) (49 + a.toNat) v) else 0) = sT (cS I p) := by
    funext a v
    by_cases ha : 0 ≤ a ∧ a < 6
    · rw [cS_T ha, if_pos ha, e (p + 1) (by omega) (by omega) (by omega), e 36 (by omega) (by omega) (by omega), e (49 + a.toNat) (by omega) (by omega) (by omega)]
    · rw [if_neg ha]
      exact (if_neg ha).symm
  unfold sPut
  rw [show cS (zu (zu (zu I (p + 2) c w) (p + 3) c t) (p + 4) c (t + sT (cS I p) c w)) p = ((zu (zu (zu I (p + 2) c w) (p + 3) c t) (p + 4) c (t + sT (cS I p) c w) 34 2, zu (zu (zu I (p + 2) c w) (p + 3) c t) (p + 4) c (t + sT (cS I p) c w) 34 0, zu (zu (zu I (p + 2) c w) (p + 3) c t) (p + 4) c (t + sT (cS I p) c w) 34 1), zu (zu (zu I (p + 2) c w) (p + 3) c t) (p + 4) c (t + sT (cS I p) c w) 37, _, (fun a b => zbt (zu (zu (zu I (p + 2) c w) (p + 3) c t) (p + 4) c (t + sT (cS I p) c w) (p + 5) b) a), zu (zu (zu I (p + 2) c w) (p + 3) c t) (p + 4) c (t + sT (cS I p) c w) (p + 2), zu (zu (zu I (p + 2) c w) (p + 3) c t) (p + 4) c (t + sT (cS I p) c w) (p + 3), zu (zu (zu I (p + 2) c w) (p + 3) c t) (p + 4) c (t + sT (cS I p) c w) (p + 4)) from rfl, eT, e1, e2, e3, e 34 (by omega) (by omega) (by omega), e 37 (by omega) (by omega) (by omega), e (p + 5) (by omega) (by omega) (by omega)]
  rfl
theorem zfirst_in {P : Int → Bool} {n : Nat} (h : n ≤ 1000000) : -4 ≤ zfirst P n ∧ zfirst P n ≤ 1000000 := by
  rcases zfirst_spec P n with ⟨g, -⟩ | ⟨g, g', -⟩ <;> omega
theorem sNot_in {S : zS} {c t : Int} (h : sN S ≤ 1000000) : zin (sNot S c t) := by
  have : -4 ≤ sNot S c t ∧ sNot S c t ≤ 1000000 := zfirst_in (by omega)
  unfold zin
  omega
theorem sBeg_in {S : zS} {c t : Int} (h : sN S ≤ 1000000) : zin (sBeg S c t) := by
  have : -4 ≤ sBeg S c t ∧ sBeg S c t ≤ 1000000 := zfirst_in (by omega)
  unfold zin
  omega
theorem sOver_in {S : zS} {what most t en : Int} (h0 : 0 ≤ t) (h1 : t ≤ 2000000) (h2 : en ≤ 3000000) : zin (sOver S what most t en) := by
  rcases sOver_spec (S := S) (what := what) (most := most) (en := en) h0 with ⟨g, -⟩ | ⟨g, g', -⟩ <;> unfold zin <;> omega
theorem sFl_succ {S : zS} {c y w : Int} (h : 1 ≤ w) : sFl S c y w.toNat = if ¬ sSoon S c w (sFl S c y (w - 1).toNat).2.2 = -4 then (w, sSoon S c w (sFl S c y (w - 1).toNat).2.2, sSoon S c w (sFl S c y (w - 1).toNat).2.2 + sT S c w) else sFl S c y (w - 1).toNat := by
  have e : w.toNat = (w - 1).toNat + 1 := by omega
  have e2 : (((w - 1).toNat : Nat) : Int) + 1 = w := by omega
  rw [e]
  show (if ¬ sSoon S c (((w - 1).toNat : Nat) + 1) (sFl S c y (w - 1).toNat).2.2 = -4 then ((((w - 1).toNat : Nat) : Int) + 1, sSoon S c (((w - 1).toNat : Nat) + 1) (sFl S c y (w - 1).toNat).2.2, sSoon S c (((w - 1).toNat : Nat) + 1) (sFl S c y (w - 1).toNat).2.2 + sT S c (((w - 1).toNat : Nat) + 1)) else sFl S c y (w - 1).toNat) = _
  rw [e2]
theorem sSoon_le {S : zS} {c w y M : Int} (hw : sWt S) (hT : 1 ≤ sT S c w) (hM : 0 ≤ M) (hU : ∀ a : Int, 0 ≤ a → a < sN S → 0 < sW S a → sU S a ≤ M) : sSoon S c w y ≤ M := by
  rcases sSoon_spec (S := S) (c := c) (w := w) (y := y) with ⟨h1, -⟩ | ⟨h1, h2, h3, h4⟩
  · omega
  · obtain ⟨t', a1, a2, a3, a4⟩ := sOk_least hw hT _ _ rfl h1 h3
    by_cases q : t' < sSoon S c w y
    · exact absurd a3 (h4 t' a1 q)
    · rcases a4 with rfl | ⟨a, b0, b1, b2, b3⟩
      · omega
      · have := hU a b0 b1 b2
        omega
theorem sFl_le {S : zS} {c y M : Int} (hw : sWt S) (hM : 0 ≤ M) (hU : ∀ a : Int, 0 ≤ a → a < sN S → 0 < sW S a → sU S a ≤ M) : ∀ n : Nat, (∀ w : Int, 1 ≤ w → w ≤ n → 1 ≤ sT S c w) → (sFl S c y n).2.1 ≤ M := by
  intro n
  induction n with
  | zero => intro _; exact hM
  | succ n ih =>
    intro hT
    have h1 := ih (fun w a b => hT w a (by omega))
    show (if ¬ sSoon S c (n + 1) (sFl S c y n).2.2 = -4 then ((n + 1 : Int), sSoon S c (n + 1) (sFl S c y n).2.2, sSoon S c (n + 1) (sFl S c y n).2.2 + sT S c (n + 1)) else sFl S c y n).2.1 ≤ M
    split
    · exact sSoon_le hw (hT (n + 1) (by omega) (by omega)) hM hU
    · exact h1
def zminf (f : Int → Int) : Nat → Int
  | 0 => 1000000
  | n + 1 => min (zminf f n) (f (n + 1))
theorem zminf_succ (f : Int → Int) {w : Int} (h : 1 ≤ w) : zminf f w.toNat = min (zminf f (w - 1).toNat) (f w) := by
  have e : w.toNat = (w - 1).toNat + 1 := by omega
  have e2 : (((w - 1).toNat : Nat) : Int) + 1 = w := by omega
  rw [e]
  show min (zminf f (w - 1).toNat) (f (((w - 1).toNat : Nat) + 1)) = _
  rw [e2]
/-- the widths at which it takes less than at each lesser one, as bits; and the least -/
def zst (f : Int → Int) : Nat → Int × Int
  | 0 => (0, 1000000)
  | n + 1 => if f (n + 1) < (zst f n).2 then (zior (zst f n).1 (zishl 1 (n + 1)), f (n + 1)) else zst f n
theorem zst_succ (f : Int → Int) {w : Int} (h : 1 ≤ w) : zst f w.toNat = if f w < (zst f (w - 1).toNat).2 then (zior (zst f (w - 1).toNat).1 (zishl 1 w), f w) else zst f (w - 1).toNat := by
  have e : w.toNat = (w - 1).toNat + 1 := by omega
  have e2 : (((w - 1).toNat : Nat) : Int) + 1 = w := by omega
  rw [e]
  show (if f (((w - 1).toNat : Nat) + 1) < (zst f (w - 1).toNat).2 then (zior (zst f (w - 1).toNat).1 (zishl 1 (((w - 1).toNat : Nat) + 1)), f (((w - 1).toNat : Nat) + 1)) else zst f (w - 1).toNat) = _
  rw [e2]
def zput (I : zMem) (p : Nat) (c w t : Int) : zMem := zu (zu (zu I (p + 2) c w) (p + 3) c t) (p + 4) c (t + sT (cS I p) c w)
theorem sLen_succ (S : zS) {c : Int} (h : 0 ≤ c) : sLen S (c + 1).toNat = if 0 < sW S c then max (sLen S c.toNat) (sU S c) else sLen S c.toNat := by
  rw [show (c + 1).toNat = c.toNat + 1 by omega]
  show (if 0 < sW S (c.toNat : Int) then max (sLen S c.toNat) (sU S (c.toNat : Int)) else sLen S c.toNat) = _
  rw [Int.toNat_of_nonneg h]
/-- a plan written into a row, and read out of it -/
def zwr (I : zMem) (p r : Nat) : zMem := zcp (zcp (zcp (zcp I (p + 1) 0 r 0 6) (p + 2) 0 r 6 6) (p + 3) 0 r 12 6) (p + 4) 0 r 18 6
def zrd (I : zMem) (p r : Nat) : zMem := zcp (zcp (zcp (zcp I r 0 (p + 1) 0 6) r 6 (p + 2) 0 6) r 12 (p + 3) 0 6) r 18 (p + 4) 0 6
def zAtt (S : zS) (c w le : Int) : Prop := (w = 1 ∧ le = 1000000) ∨ ∃ w' : Int, 1 ≤ w' ∧ w' < w ∧ sT S c w' = le
