/-! facts of plans: what is used, the first cycle over, the soonest -/
theorem zsum_mono {f g : Int → Int} : ∀ {n : Nat}, (∀ i : Int, 0 ≤ i → i < n → f i ≤ g i) → zsum f n ≤ zsum g n := by
  intro n
  induction n with
  | zero => intro _; exact Int.le_refl _
  | succ n ih =>
    intro h
    have h1 := ih (fun i h0 h1 => h i h0 (by omega))
    have h2 := h n (by omega) (by omega)
    show zsum f n + f n ≤ zsum g n + g n
    omega
/-- each core weighs at least 0 -/
def sWt (S : zS) : Prop := ∀ c : Int, 0 ≤ c → c < sN S → 0 ≤ sD S c
theorem sUse_le {S : zS} {what s s' : Int} (hw : sWt S) (h01 : what = 0 ∨ what = 1) (h : ∀ c : Int, 0 ≤ c → c < sN S → 0 < sW S c → sF S c ≤ s → s < sU S c → sF S c ≤ s' ∧ s' < sU S c) : sUse S what s ≤ sUse S what s' := by
  refine zsum_mono (fun c h0 h1 => ?_)
  have hc : c < sN S := by omega
  have hd := hw c h0 hc
  by_cases g : 0 < sW S c ∧ sF S c ≤ s ∧ s < sU S c
  · have g2 := h c h0 hc g.1 g.2.1 g.2.2
    rw [if_pos g, if_pos (show 0 < sW S c ∧ sF S c ≤ s' ∧ s' < sU S c from ⟨g.1, g2⟩)]
    exact Int.le_refl _
  · rw [if_neg g]
    by_cases g2 : 0 < sW S c ∧ sF S c ≤ s' ∧ s' < sU S c
    · rw [if_pos g2]
      rcases h01 with rfl | rfl
      · rw [if_pos rfl]
        omega
      · rw [if_neg (by omega), if_pos rfl]
        exact hd
    · rw [if_neg g2]
      exact Int.le_refl _
/-- a cycle over comes no later than a start over, or is already so at t -/
theorem sOver_jump {S : zS} {what most t : Int} (hw : sWt S) (h01 : what = 0 ∨ what = 1) : ∀ (m : Nat) (s : Int), (s - t).toNat = m → t ≤ s → most < sUse S what s → ∃ s', t ≤ s' ∧ s' ≤ s ∧ most < sUse S what s' ∧ (s' = t ∨ ∃ c : Int, 0 ≤ c ∧ c < sN S ∧ 0 < sW S c ∧ sF S c = s') := by
  intro m
  induction m with
  | zero =>
    intro s hm hts hs
    exact ⟨s, hts, Int.le_refl _, hs, Or.inl (by omega)⟩
  | succ m ih =>
    intro s hm hts hs
    by_cases g : ∃ c : Int, 0 ≤ c ∧ c < sN S ∧ 0 < sW S c ∧ sF S c = s
    · exact ⟨s, hts, Int.le_refl _, hs, Or.inr g⟩
    · have h1 : sUse S what s ≤ sUse S what (s - 1) := sUse_le hw h01 (fun c h0 h1 h2 h3 h4 => by
        have : sF S c ≠ s := fun e => g ⟨c, h0, h1, h2, e⟩
        omega)
      obtain ⟨s', a1, a2, a3, a4⟩ := ih (s - 1) (by omega) (by omega) (by omega)
      exact ⟨s', a1, by omega, a3, a4⟩
theorem sOver_spec {S : zS} {what most t en : Int} (ht : 0 ≤ t) : (sOver S what most t en = -4 ∧ ∀ s, t ≤ s → s < en → sUse S what s ≤ most) ∨ (t ≤ sOver S what most t en ∧ sOver S what most t en < en ∧ most < sUse S what (sOver S what most t en) ∧ ∀ s, t ≤ s → s < sOver S what most t en → sUse S what s ≤ most) := by
  unfold sOver
  rcases zfirst_spec (fun i => decide (most < sUse S what (t + i))) (en - t).toNat with ⟨h1, h2⟩ | ⟨h1, h2, h3, h4⟩
  · rw [if_pos h1]
    refine Or.inl ⟨rfl, fun s g1 g2 => ?_⟩
    have := h2 (s - t) (by omega) (by omega)
    rw [show t + (s - t) = s by omega] at this
    simpa using this
  · rw [if_neg (by omega)]
    refine Or.inr ⟨by omega, by omega, by simpa using h3, fun s g1 g2 => ?_⟩
    have := h4 (s - t) (by omega) (by omega)
    rw [show t + (s - t) = s by omega] at this
    simpa using this
theorem sOver_none {S : zS} {what most t en : Int} (ht : 0 ≤ t) (h : ∀ s, t ≤ s → s < en → sUse S what s ≤ most) : sOver S what most t en = -4 := by
  rcases sOver_spec (S := S) (what := what) (most := most) (en := en) ht with ⟨h1, -⟩ | ⟨h1, h2, h3, -⟩
  · exact h1
  · have := h _ h1 h2
    omega
theorem sOver_some {S : zS} {what most t en f : Int} (ht : 0 ≤ t) (h0 : t ≤ f) (h1 : f < en) (h2 : most < sUse S what f) (h : ∀ s, t ≤ s → s < f → sUse S what s ≤ most) : sOver S what most t en = f := by
  rcases sOver_spec (S := S) (what := what) (most := most) (en := en) ht with ⟨-, g⟩ | ⟨g1, g2, g3, g4⟩
  · have := g f h0 h1
    omega
  · by_cases a : sOver S what most t en < f
    · have := h _ g1 a
      omega
    · by_cases b : f < sOver S what most t en
      · have := g4 f h0 b
        omega
      · omega
theorem sOver_iff {S : zS} {what most t en : Int} (ht : 0 ≤ t) : sOver S what most t en = -4 ↔ ∀ s, t ≤ s → s < en → sUse S what s ≤ most := by
  constructor
  · intro h
    rcases sOver_spec (S := S) (what := what) (most := most) (en := en) ht with ⟨-, g⟩ | ⟨g1, -⟩
    · exact g
    · omega
  · exact sOver_none ht
/-- looking at the starts alone finds it -/
theorem sOver_cand {S : zS} {what most t en f : Int} (hw : sWt S) (h01 : what = 0 ∨ what = 1) (ht : 0 ≤ t) (h0 : sUse S what t ≤ most)
    (hf : (f = -4 ∧ ∀ c : Int, 0 ≤ c → c < sN S → 0 < sW S c → t < sF S c → sF S c < en → sUse S what (sF S c) ≤ most) ∨ (t < f ∧ f < en ∧ most < sUse S what f ∧ ∀ c : Int, 0 ≤ c → c < sN S → 0 < sW S c → t < sF S c → sF S c < en → most < sUse S what (sF S c) → f ≤ sF S c)) : f = sOver S what most t en := by
  rcases hf with ⟨rfl, h⟩ | ⟨h1, h2, h3, h⟩
  · refine (sOver_none ht (fun s g1 g2 => ?_)).symm
    by_cases hs : sUse S what s ≤ most
    · exact hs
    · obtain ⟨s', a1, a2, a3, a4⟩ := sOver_jump (most := most) hw h01 _ s rfl g1 (by omega)
      rcases a4 with rfl | ⟨c, b0, b1, b2, rfl⟩
      · omega
      · by_cases e : sF S c = t
        · rw [e] at a3
          omega
        · have := h c b0 b1 b2 (by omega) (by omega)
          omega
  · refine (sOver_some ht (by omega) h2 h3 (fun s g1 g2 => ?_)).symm
    by_cases hs : sUse S what s ≤ most
    · exact hs
    · obtain ⟨s', a1, a2, a3, a4⟩ := sOver_jump (most := most) hw h01 _ s rfl g1 (by omega)
      rcases a4 with rfl | ⟨c, b0, b1, b2, rfl⟩
      · omega
      · by_cases e : sF S c = t
        · rw [e] at a3
          omega
        · have := h c b0 b1 b2 (by omega) (by omega) a3
          omega
/-- it may be put: all of it at once -/
def sOk (S : zS) (c w t : Int) : Prop :=
  (∀ a : Int, 0 ≤ a → a < sN S → sA S a c = true → 0 < sW S a ∧ sU S a ≤ t) ∧ (∀ b : Int, 0 ≤ b → b < sN S → sA S c b = true → 0 < sW S b → t + sT S c w ≤ sF S b) ∧
  (∀ s, t ≤ s → s < t + sT S c w → sUse S 0 s ≤ sL S - w) ∧ (∀ s, t ≤ s → s < t + sT S c w → sUse S 1 s ≤ sP S - sD S c)
theorem sNot_iff {S : zS} {c t : Int} : sNot S c t = -4 ↔ ∀ a : Int, 0 ≤ a → a < sN S → sA S a c = true → 0 < sW S a ∧ sU S a ≤ t := by
  unfold sNot
  constructor
  · intro h a h0 h1 h2
    rcases zfirst_spec (fun a => sA S a c && (decide (¬ 0 < sW S a) || decide (t < sU S a))) (sN S).toNat with ⟨-, g⟩ | ⟨g, -⟩
    · have := g a h0 (by omega)
      simp [h2] at this
      omega
    · omega
  · intro h
    refine zfirst_none (fun a h0 h1 => ?_)
    by_cases ha : sA S a c = true
    · have := h a h0 (by omega) ha
      simp [ha]
      omega
    · simp [ha]
theorem sBeg_iff {S : zS} {c en : Int} : sBeg S c en = -4 ↔ ∀ b : Int, 0 ≤ b → b < sN S → sA S c b = true → 0 < sW S b → en ≤ sF S b := by
  unfold sBeg
  constructor
  · intro h a h0 h1 h2 h3
    rcases zfirst_spec (fun b => sA S c b && (decide (0 < sW S b) && decide (sF S b < en))) (sN S).toNat with ⟨-, g⟩ | ⟨g, -⟩
    · have := g a h0 (by omega)
      simp [h2] at this
      exact this h3
    · omega
  · intro h
    refine zfirst_none (fun a h0 h1 => ?_)
    by_cases ha : sA S c a = true
    · by_cases hb : 0 < sW S a
      · have := h a h0 (by omega) ha hb
        simp [ha]
        omega
      · simp [hb]
    · simp [ha]
theorem sRea_iff {S : zS} {c w t : Int} (ht : 0 ≤ t) : sRea S c w t = 0 ↔ sOk S c w t := by
  unfold sRea sOk
  rw [← sNot_iff, ← sBeg_iff, ← sOver_iff ht, ← sOver_iff ht]
  by_cases h1 : sNot S c t = -4
  · rw [if_neg (by omega)]
    by_cases h2 : sBeg S c (t + sT S c w) = -4
    · rw [if_neg (by omega)]
      by_cases h3 : sOver S 0 (sL S - w) t (t + sT S c w) = -4
      · rw [if_neg (by omega)]
        by_cases h4 : sOver S 1 (sP S - sD S c) t (t + sT S c w) = -4
        · rw [if_neg (by omega)]
          exact ⟨fun _ => ⟨h1, h2, h3, h4⟩, fun _ => rfl⟩
        · rw [if_pos h4]
          exact ⟨fun h => by omega, fun h => absurd h.2.2.2 h4⟩
      · rw [if_pos h3]
        exact ⟨fun h => by omega, fun h => absurd h.2.2.1 h3⟩
    · rw [if_pos h2]
      exact ⟨fun h => by omega, fun h => absurd h.2.1 h2⟩
  · rw [if_pos h1]
    exact ⟨fun h => by omega, fun h => absurd h.1 h1⟩
/-- where it could not begin a cycle earlier, it begins at 0 or where another is done -/
theorem sOk_left {S : zS} {c w t : Int} (hw : sWt S) (hT : 1 ≤ sT S c w) (ht : 0 < t) (h : sOk S c w t) (hn : ∀ a : Int, 0 ≤ a → a < sN S → 0 < sW S a → sU S a ≠ t) : sOk S c w (t - 1) := by
  obtain ⟨h1, h2, h3, h4⟩ := h
  have hu : ∀ what : Int, what = 0 ∨ what = 1 → sUse S what (t - 1) ≤ sUse S what t := fun what h01 => sUse_le hw h01 (fun a a0 a1 a2 a3 a4 => by
    have := hn a a0 a1 a2
    omega)
  refine ⟨fun a a0 a1 a2 => ?_, fun b b0 b1 b2 b3 => ?_, fun s s0 s1 => ?_, fun s s0 s1 => ?_⟩
  · have g := h1 a a0 a1 a2
    have := hn a a0 a1 g.1
    omega
  · have := h2 b b0 b1 b2 b3
    omega
  · by_cases e : s = t - 1
    · have g1 := hu 0 (Or.inl rfl)
      have g2 := h3 t (by omega) (by omega)
      rw [e]
      omega
    · exact h3 s (by omega) (by omega)
  · by_cases e : s = t - 1
    · have g1 := hu 1 (Or.inr rfl)
      have g2 := h4 t (by omega) (by omega)
      rw [e]
      omega
    · exact h4 s (by omega) (by omega)
theorem sSoon_spec {S : zS} {c w y : Int} : (sSoon S c w y = -4 ∧ ∀ t, 0 ≤ t → t + sT S c w < y → ¬ sOk S c w t) ∨ (0 ≤ sSoon S c w y ∧ sSoon S c w y + sT S c w < y ∧ sOk S c w (sSoon S c w y) ∧ ∀ t, 0 ≤ t → t < sSoon S c w y → ¬ sOk S c w t) := by
  unfold sSoon
  rcases zfirst_spec (fun t => decide (sRea S c w t = 0)) (y - sT S c w).toNat with ⟨h1, h2⟩ | ⟨h1, h2, h3, h4⟩
  · refine Or.inl ⟨h1, fun t g0 g1 g2 => ?_⟩
    have := h2 t g0 (by omega)
    rw [decide_eq_false_iff_not] at this
    exact this ((sRea_iff g0).mpr g2)
  · refine Or.inr ⟨h1, by omega, (sRea_iff h1).mp (of_decide_eq_true h3), fun t g0 g1 g2 => ?_⟩
    have := h4 t g0 g1
    rw [decide_eq_false_iff_not] at this
    exact this ((sRea_iff g0).mpr g2)
theorem sSoon_some {S : zS} {c w y t : Int} (h0 : 0 ≤ t) (h1 : t + sT S c w < y) (h2 : sOk S c w t) (h : ∀ t', 0 ≤ t' → t' < t → ¬ sOk S c w t') : sSoon S c w y = t := by
  rcases sSoon_spec (S := S) (c := c) (w := w) (y := y) with ⟨-, g⟩ | ⟨g1, g2, g3, g4⟩
  · exact absurd h2 (g t h0 h1)
  · by_cases a : sSoon S c w y < t
    · exact absurd g3 (h _ g1 a)
    · by_cases b : t < sSoon S c w y
      · exact absurd h2 (g4 t h0 b)
      · omega
theorem sSoon_none {S : zS} {c w y : Int} (h : ∀ t, 0 ≤ t → t + sT S c w < y → ¬ sOk S c w t) : sSoon S c w y = -4 := by
  rcases sSoon_spec (S := S) (c := c) (w := w) (y := y) with ⟨g, -⟩ | ⟨g1, g2, g3, g4⟩
  · exact g
  · exact absurd g3 (h _ g1 g2)
/-- the least cycle at which it may be put is 0 or an end -/
theorem sOk_least {S : zS} {c w : Int} (hw : sWt S) (hT : 1 ≤ sT S c w) : ∀ (m : Nat) (t : Int), t.toNat = m → 0 ≤ t → sOk S c w t → ∃ t', 0 ≤ t' ∧ t' ≤ t ∧ sOk S c w t' ∧ (t' = 0 ∨ ∃ a : Int, 0 ≤ a ∧ a < sN S ∧ 0 < sW S a ∧ sU S a = t') := by
  intro m
  induction m with
  | zero =>
    intro t hm h0 h
    exact ⟨t, h0, Int.le_refl _, h, Or.inl (by omega)⟩
  | succ m ih =>
    intro t hm h0 h
    by_cases g : ∃ a : Int, 0 ≤ a ∧ a < sN S ∧ 0 < sW S a ∧ sU S a = t
    · exact ⟨t, h0, Int.le_refl _, h, Or.inr g⟩
    · obtain ⟨t', a1, a2, a3, a4⟩ := ih (t - 1) (by omega) (by omega) (sOk_left hw hT (by omega) h (fun a a0 a1 a2 e => g ⟨a, a0, a1, a2, e⟩))
      exact ⟨t', a1, by omega, a3, a4⟩
theorem sSoon_cand {S : zS} {c w y r : Int} (hw : sWt S) (hT : 1 ≤ sT S c w) (hU : ∀ a : Int, 0 ≤ a → a < sN S → 0 < sW S a → 0 ≤ sU S a)
    (hr : (r = -4 ∧ (∀ t, (t = 0 ∨ ∃ a : Int, 0 ≤ a ∧ a < sN S ∧ 0 < sW S a ∧ sU S a = t) → t + sT S c w < y → ¬ sOk S c w t)) ∨ (0 ≤ r ∧ r + sT S c w < y ∧ sOk S c w r ∧ ∀ t, (t = 0 ∨ ∃ a : Int, 0 ≤ a ∧ a < sN S ∧ 0 < sW S a ∧ sU S a = t) → t + sT S c w < y → sOk S c w t → r ≤ t)) : r = sSoon S c w y := by
  rcases hr with ⟨rfl, h⟩ | ⟨h1, h2, h3, h⟩
  · refine (sSoon_none (fun t g0 g1 g2 => ?_)).symm
    obtain ⟨t', a1, a2, a3, a4⟩ := sOk_least hw hT _ t rfl g0 g2
    exact h t' a4 (by omega) a3
  · refine (sSoon_some h1 h2 h3 (fun t g0 g1 g2 => ?_)).symm
    obtain ⟨t', a1, a2, a3, a4⟩ := sOk_least hw hT _ t rfl g0 g2
    have := h t' a4 (by omega) a3
    omega
theorem sUse_b {S : zS} {what t : Int} (hN : 0 ≤ sN S ∧ sN S ≤ 6) (hD : ∀ c : Int, 0 ≤ c → c < sN S → 0 ≤ sD S c ∧ sD S c ≤ 40) (hW : ∀ c : Int, 0 ≤ c → c < sN S → sW S c ≤ 8) (h01 : 0 ≤ what ∧ what ≤ 2) : 0 ≤ sUse S what t ∧ sUse S what t ≤ 1600 := by
  have h := zsum_bounds (a := 0) (b := 256) (n := (sN S).toNat) (f := fun c => if 0 < sW S c ∧ sF S c ≤ t ∧ t < sU S c then (if what = 0 then sW S c else if what = 1 then sD S c else zishl 1 c) else 0) (fun c h0 h1 => by
    have hd := hD c h0 (by omega)
    have hw := hW c h0 (by omega)
    have hs := zshl1 h0 (show c < 9 by omega)
    show 0 ≤ (if 0 < sW S c ∧ sF S c ≤ t ∧ t < sU S c then (if what = 0 then sW S c else if what = 1 then sD S c else zishl 1 c) else 0) ∧ (if 0 < sW S c ∧ sF S c ≤ t ∧ t < sU S c then (if what = 0 then sW S c else if what = 1 then sD S c else zishl 1 c) else 0) ≤ 256
    by_cases g : 0 < sW S c ∧ sF S c ≤ t ∧ t < sU S c
    · rw [if_pos g]
      split
      · omega
      · split <;> omega
    · rw [if_neg g]
      omega)
  unfold sUse
  omega
/-- what the class's plan gives -/
theorem cS_facts {I : zMem} {p : Nat} (hc : zCh I) (hp : zPl I p) : sWt (cS I p) ∧ (0 ≤ sN (cS I p) ∧ sN (cS I p) ≤ 6) ∧ (∀ c : Int, 0 ≤ c → c < sN (cS I p) → 0 ≤ sD (cS I p) c ∧ sD (cS I p) c ≤ 40) ∧ (∀ c : Int, 0 ≤ c → c < sN (cS I p) → sW (cS I p) c ≤ 8) ∧ (∀ c w : Int, 0 ≤ c → c < sN (cS I p) → 1 ≤ w → w ≤ sL (cS I p) → 2 ≤ sT (cS I p) c w ∧ sT (cS I p) c w ≤ 2234) ∧ (∀ a : Int, 0 ≤ a → a < sN (cS I p) → 0 < sW (cS I p) a → 0 ≤ sU (cS I p) a) := by
  obtain ⟨h1, h2, h3, h4, h5, h6⟩ := hc
  refine ⟨fun c g0 g1 => ?_, ⟨?_, ?_⟩, fun c g0 g1 => ?_, fun c g0 g1 => ?_, fun c w g0 g1 g2 g3 => ?_, fun c g0 g1 g2 => ?_⟩
  · have := (h5 c g0 g1).2.1
    show 0 ≤ I 37 c
    omega
  · show 0 ≤ I 34 2
    omega
  · show I 34 2 ≤ 6
    omega
  · have := (h5 c g0 g1).2.1
    show 0 ≤ I 37 c ∧ I 37 c ≤ 40
    omega
  · have := (hp c g0 g1).2.1
    show I (p + 2) c ≤ 8
    omega
  · have g := h5 c g0 g1
    rw [cS_T ⟨g0, by have : c < I 34 2 := g1; omega⟩]
    exact tkOf_b g.1 (g.2.2.2.2 w g2 g3)
  · exact (hp c g0 g1).2.2.2.1.1
