/-! the reference: the soonest, filling one core -/
def sIm (S : zS) (c w f i : Int) : Prop := (f = -4 ∧ ∀ j : Int, -1 ≤ j → j < i → (j < 0 ∨ 0 < sW S j) → ¬ sOk S c w (sTj (sU S) j)) ∨ ((0 ≤ f ∧ f ≤ 1010000) ∧ sOk S c w f ∧ ∀ j : Int, -1 ≤ j → j < i → (j < 0 ∨ 0 < sW S j) → sOk S c w (sTj (sU S) j) → f ≤ sTj (sU S) j)
theorem sRea_b (S : zS) (c w t : Int) : 0 ≤ sRea S c w t ∧ sRea S c w t ≤ 4 := by
  unfold sRea
  split
  · omega
  · split
    · omega
    · split
      · omega
      · split <;> omega
theorem sIm_keep {S : zS} {c w f i : Int} (h : sIm S c w f i) (hq : ¬ (i < 0 ∨ 0 < sW S i) ∨ (f ≠ -4 ∧ f ≤ sTj (sU S) i) ∨ ¬ sOk S c w (sTj (sU S) i)) : sIm S c w f (i + 1) := by
  rcases h with ⟨h0, h⟩ | ⟨h0, h2, h⟩
  · refine Or.inl ⟨h0, fun j g0 g1 g2 g3 => ?_⟩
    by_cases e : j = i
    · subst e
      rcases hq with q | q | q
      · exact q g2
      · exact q.1 h0
      · exact q g3
    · exact h j g0 (by omega) g2 g3
  · refine Or.inr ⟨h0, h2, fun j g0 g1 g2 g3 => ?_⟩
    by_cases e : j = i
    · subst e
      rcases hq with q | q | q
      · exact absurd g2 q
      · exact q.2
      · exact absurd g3 q
    · exact h j g0 (by omega) g2 g3
theorem sIm_new {S : zS} {c w f i : Int} (h : sIm S c w f i) (h0 : 0 ≤ sTj (sU S) i ∧ sTj (sU S) i ≤ 1010000) (h2 : sOk S c w (sTj (sU S) i)) (h3 : f = -4 ∨ sTj (sU S) i < f) : sIm S c w (sTj (sU S) i) (i + 1) := by
  refine Or.inr ⟨h0, h2, fun j g0 g1 g2 g3 => ?_⟩
  by_cases e : j = i
  · rw [e]
    exact Int.le_refl _
  · rcases h with ⟨k0, h⟩ | ⟨k0, k1, h⟩
    · exact absurd g3 (h j g0 (by omega) g2)
    · have := h j g0 (by omega) g2 g3
      omega
theorem sIm_end {S : zS} {c w f y : Int} (h : sIm S c w f (sN S)) (hw : sWt S) (hT : 1 ≤ sT S c w ∧ sT S c w ≤ 2234) (hN : 0 ≤ sN S) (hU : ∀ a : Int, 0 ≤ a → a < sN S → 0 < sW S a → 0 ≤ sU S a) (hy : 1020000 ≤ y) : f = sSoon S c w y := by
  have cand : ∀ t, (t = 0 ∨ ∃ a : Int, 0 ≤ a ∧ a < sN S ∧ 0 < sW S a ∧ sU S a = t) → ∃ j : Int, -1 ≤ j ∧ j < sN S ∧ (j < 0 ∨ 0 < sW S j) ∧ sTj (sU S) j = t := by
    intro t ht
    rcases ht with rfl | ⟨a, a0, a1, a2, rfl⟩
    · exact ⟨-1, by omega, by omega, Or.inl (by omega), if_pos (by omega)⟩
    · exact ⟨a, by omega, a1, Or.inr a2, if_neg (by omega)⟩
  refine sSoon_cand hw hT.1 hU ?_
  rcases h with ⟨h0, h⟩ | ⟨h0, h2, h⟩
  · refine Or.inl ⟨h0, fun t ht g => ?_⟩
    obtain ⟨j, j0, j1, j2, rfl⟩ := cand t ht
    exact h j j0 j1 j2
  · refine Or.inr ⟨h0.1, by omega, h2, fun t ht g g2 => ?_⟩
    obtain ⟨j, j0, j1, j2, rfl⟩ := cand t ht
    exact h j j0 j1 j2 g2
theorem sSoon_cut {S : zS} {c w y Y : Int} (h : y ≤ Y) : sSoon S c w y = if ¬ sSoon S c w Y = -4 ∧ sSoon S c w Y + sT S c w < y then sSoon S c w Y else -4 := by
  rcases sSoon_spec (S := S) (c := c) (w := w) (y := Y) with ⟨h1, h2⟩ | ⟨h1, h2, h3, h4⟩
  · rw [if_neg (fun q => q.1 h1)]
    exact sSoon_none (fun t g0 g1 => h2 t g0 (by omega))
  · by_cases q : sSoon S c w Y + sT S c w < y
    · rw [if_pos ⟨by omega, q⟩]
      exact sSoon_some h1 q h3 h4
    · rw [if_neg (fun z => q z.2)]
      refine sSoon_none (fun t g0 g1 g2 => ?_)
      exact h4 t g0 (by omega) g2
set_option maxHeartbeats 4000000 in
set_option maxRecDepth 100000 in
theorem c_X10_soonestOf {G : zG} {d n : Nat} {I : zMem} {R : zRef} {wo c w : Int} (hW : zWir n R) (hn : 143 ≤ n) (hch : mCh I) (hpl : mPl I) (htk : mTk I) (hc : 0 ≤ c ∧ c < I 115 2) (hw : 1 ≤ w ∧ w ≤ I 115 0) (hwo : zin wo) (hput : ¬ 0 < I 122 (6 + c)) : MT G mX10_soonestOf (d + 4) 0 0 [zR 115, zI c, zI w, zI wo] n I R (zP1 (fun r I' R' => (r = sSoon (mS I wo) c w 2000000 ∧ (r = -4 ∨ (0 ≤ r ∧ r ≤ 1010000)) ∧ mSm I I') ∧ R' = R)) := by
  refine MT.of (by decide +kernel) tX10_soonestOf_ok (Nat.le_of_ble_eq_true rfl) (fun hI0 => ?_)
  have hco := hch.1
  have hli := hch.2.1
  have hT := htk c w hc.1 hc.2 hw.1 hw.2
  have key : ∀ (m : Nat) (k f : Int) (J : zMem) (x6 : Option zV), -1 ≤ k → k ≤ I 115 2 → (I 115 2 - k).toNat = m → mSm I J → sIm (mS I wo) c w f k → WP G mX10_soonestOf (d + 4) 0 0 0 0 7 [some (zR 115), some (zI c), some (zI w), some (zI wo), some (zI f), some (zI k), x6] [] n J R (zP1 (fun r I' R' => (r = sSoon (mS I wo) c w 2000000 ∧ (r = -4 ∨ (0 ≤ r ∧ r ≤ 1010000)) ∧ mSm I I') ∧ R' = R)) := by
    intro m
    induction m with
    | zero =>
      intro k f J x6 h0 h1 hm sm hs
      have e2 : J 115 2 = I 115 2 := sm.2 2 (by decide)
      have hf : f = -4 ∨ (0 ≤ f ∧ f ≤ 1010000) := by
        rcases hs with ⟨q, -⟩ | ⟨q, -⟩
        · exact Or.inl q
        · exact Or.inr q
      obtain ⟨f1, f2, f3, f4, f5, f6⟩ := mS_facts (wo := wo) hch hpl htk
      have ek : k = I 115 2 := by omega
      have ef := sIm_end (S := mS I wo) (c := c) (w := w) (f := f) (y := 2000000) (by rw [ek] at hs; exact hs) f1 ⟨by show 1 ≤ I 137 (9 * c + w); omega, hT.2⟩ f2.1 (fun a a0 a1 a2 => (f6 a a0 a1 a2).1) (by decide)
      refine wp_canon (fun hI0 => ?_)
      refine wp_iload (t := 4) rfl rfl ?_
      refine wp_aload_n (t := 5) rfl rfl ?_
      refine wp_getI (t := 6) (ji := 2) rfl fX10_115 rfl rfl (by omega) (by first | rfl | assumption) ?_
      refine wp_icmp_ge (t := 7) (tgt := 99) rfl (by decide) (by first | assumption | exact hI0 _ _ | exact zin_and _ _ | (unfold zin; omega) | (unfold zin at *; omega)) (by first | assumption | exact hI0 _ _ | exact zin_and _ _ | (unfold zin; omega) | (unfold zin at *; omega)) (fun h13 => ?_) (fun h13 => ?_)
      · refine wp_iload (t := 46) rfl rfl ?_
        refine wp_ireturn (t := 47) rfl rfl ?_
        exact ⟨_, rfl, ⟨ef, hf, sm⟩, rfl⟩
      · exact absurd h13 (by omega)
    | succ m ih =>
      intro k f J x6 h0 h1 hm sm hs
      have e2 : J 115 2 = I 115 2 := sm.2 2 (by decide)
      have e0 : J 115 0 = I 115 0 := sm.2 0 (by decide)
      have e122 : J 122 = I 122 := sm.1 122 (by decide)
      have hchJ := mSm_Ch sm hch
      have hplJ := mSm_Pl sm hpl
      have htkJ := mSm_Tk sm htk
      have eS := mSm_S (wo := wo) sm
      rw [← eS] at hs
      obtain ⟨f1, f2, f3, f4, f5, f6⟩ := mS_facts (wo := wo) hchJ hplJ htkJ
      have hf : f = -4 ∨ (0 ≤ f ∧ f ≤ 1010000) := by
        rcases hs with ⟨q, -⟩ | ⟨q, -⟩
        · exact Or.inl q
        · exact Or.inr q
      have hpk : 0 ≤ k → 0 ≤ J 122 (6 + k) ∧ J 122 (6 + k) ≤ 8 := fun g => by have := (hplJ k g (by omega)).2.1; omega
      refine wp_canon (fun hI0 => ?_)
      refine wp_iload (t := 4) rfl rfl ?_
      refine wp_aload_n (t := 5) rfl rfl ?_
      refine wp_getI (t := 6) (ji := 2) rfl fX10_115 rfl rfl (by omega) (by first | rfl | assumption) ?_
      refine wp_icmp_ge (t := 7) (tgt := 99) rfl (by decide) (by first | assumption | exact hI0 _ _ | exact zin_and _ _ | (unfold zin; omega) | (unfold zin at *; omega)) (by first | assumption | exact hI0 _ _ | exact zin_and _ _ | (unfold zin; omega) | (unfold zin at *; omega)) (fun h13 => ?_) (fun h13 => ?_)
      · exact absurd h13 (by omega)
      · refine wp_aload_n (t := 8) rfl rfl ?_
        refine wp_iload_n (t := 9) rfl rfl ?_
        refine wp_vi (ci := 10) (c_X10_isPut (d := d + 3) hW hn ⟨by omega, by omega⟩) (t := 10) rfl kX10_215 rfl rfl (by omega) (by first | rfl | assumption) ⟨_, _, rfl⟩ (Nat.le_of_ble_eq_true rfl) ⟨Nat.le_refl _, Nat.le_refl _⟩ (fun r18 I18 R18 c18 => ?_)
        refine wp_canon (fun hI1 => ?_)
        obtain ⟨e18, zi18, zr18⟩ := c18
        have zi18 := zi18.symm
        subst zi18
        have zr18 := zr18.symm
        subst zr18
        have b18 : 0 ≤ r18 ∧ r18 ≤ 1 := by rw [e18]; split <;> omega
        have n18 : ¬ r18 = 0 → 0 < J 122 (6 + c) := fun h => by (rw [e18] at h; by_cases q : 0 < J 122 (6 + c); exact q; rw [if_neg q] at h; exact absurd rfl h)
        have m18 : r18 = 0 → ¬ (0 < J 122 (6 + c)) := fun h q => by (rw [e18, if_pos q] at h; exact absurd h (by decide))
        refine wp_if_ne (t := 11) (tgt := 99) rfl (by decide) (by first | assumption | exact hI1 _ _ | exact hI0 _ _ | exact zin_and _ _ | (unfold zin; omega) | (unfold zin at *; omega)) (fun h21 => ?_) (fun h21 => ?_)
        · exact absurd (n18 h21) (by rw [e122]; exact hput)
        · refine wp_iload (t := 12) rfl rfl ?_
          refine wp_if_ge (t := 13) (tgt := 33) rfl (by decide) (by first | assumption | exact hI1 _ _ | exact hI0 _ _ | exact zin_and _ _ | (unfold zin; omega) | (unfold zin at *; omega)) (fun h26 => ?_) (fun h26 => ?_)
          · refine wp_aload_n (t := 16) rfl rfl ?_
            refine wp_iload (t := 17) rfl rfl ?_
            refine wp_vi (ci := 10) (c_X10_isPut (d := d + 3) hW hn ⟨by omega, by omega⟩) (t := 18) rfl kX10_215 rfl rfl (by omega) (by first | rfl | assumption) ⟨_, _, rfl⟩ (Nat.le_of_ble_eq_true rfl) ⟨Nat.le_refl _, Nat.le_refl _⟩ (fun r36 I36 R36 c36 => ?_)
            refine wp_canon (fun hI2 => ?_)
            obtain ⟨e36, zi36, zr36⟩ := c36
            have zi36 := zi36.symm
            subst zi36
            have zr36 := zr36.symm
            subst zr36
            have b36 : 0 ≤ r36 ∧ r36 ≤ 1 := by rw [e36]; split <;> omega
            have n36 : ¬ r36 = 0 → 0 < J 122 (6 + k) := fun h => by (rw [e36] at h; by_cases q : 0 < J 122 (6 + k); exact q; rw [if_neg q] at h; exact absurd rfl h)
            have m36 : r36 = 0 → ¬ (0 < J 122 (6 + k)) := fun h q => by (rw [e36, if_pos q] at h; exact absurd h (by decide))
            refine wp_if_eq (t := 19) (tgt := 51) rfl (by decide) (by first | assumption | exact hI2 _ _ | exact hI1 _ _ | exact hI0 _ _ | exact zin_and _ _ | (unfold zin; omega) | (unfold zin at *; omega)) (fun h39 => ?_) (fun h39 => ?_)
            · refine wp_bipush (t := 24) rfl (by decide) ?_
              refine wp_istore (t := 25) rfl (by decide) rfl ?_
              refine wp_iload (t := 26) rfl rfl ?_
              refine wp_if_lt (t := 27) (tgt := 89) rfl (by decide) (by first | assumption | exact hI2 _ _ | exact hI1 _ _ | exact hI0 _ _ | exact zin_and _ _ | (unfold zin; omega) | (unfold zin at *; omega)) (fun h57 => ?_) (fun h57 => ?_)
              · refine wp_iload (t := 42) rfl rfl ?_
                refine wp_istore (t := 43) rfl (by decide) rfl ?_
                refine wp_iinc (t := 44) rfl rfl (by decide) rfl ?_
                refine wp_goto (t := 45) (tgt := 7) rfl (by decide) ?_
                refine ih (k + 1) _ _ _ (by omega) (by omega) (by omega) sm ?_
                rw [← eS]
                exact sIm_keep hs (Or.inl (fun q => by rcases q with q | q; omega; exact m36 h39 q))
              · exact absurd h57 (by omega)
            · refine wp_aload_n (t := 20) rfl rfl ?_
              refine wp_iload (t := 21) rfl rfl ?_
              refine wp_vi (ci := 10) (c_X10_endOf (d := d + 3) hW hn ⟨by omega, by omega⟩ (hpk (by omega))) (t := 22) rfl kX10_228 rfl rfl (by omega) (by first | rfl | assumption) ⟨_, _, rfl⟩ (Nat.le_of_ble_eq_true rfl) ⟨Nat.le_refl _, Nat.le_refl _⟩ (fun r45 I45 R45 c45 => ?_)
              refine wp_canon (fun hI3 => ?_)
              obtain ⟨e45, zi45, zr45⟩ := c45
              have zi45 := zi45.symm
              subst zi45
              have zr45 := zr45.symm
              subst zr45
              refine wp_goto (t := 23) (tgt := 53) rfl (by decide) ?_
              have ec : sTj (sU (mS J wo)) k = r45 := by rw [e45]; exact if_neg (by omega)
              have hb45 := f6 k (by omega) (by show k < J 115 2; omega) (n36 h39)
              have hb45 : 0 ≤ r45 ∧ r45 ≤ 1010000 := by rw [e45]; exact hb45
              refine wp_istore (t := 25) rfl (by decide) rfl ?_
              refine wp_iload (t := 26) rfl rfl ?_
              refine wp_if_lt (t := 27) (tgt := 89) rfl (by decide) (by first | assumption | exact hI3 _ _ | exact hI2 _ _ | exact hI1 _ _ | exact hI0 _ _ | exact zin_and _ _ | (unfold zin; omega) | (unfold zin at *; omega)) (fun h57 => ?_) (fun h57 => ?_)
              · exact absurd h57 (by omega)
              · refine wp_iload (t := 28) rfl rfl ?_
                refine wp_if_lt (t := 29) (tgt := 72) rfl (by decide) (by first | assumption | exact hI3 _ _ | exact hI2 _ _ | exact hI1 _ _ | exact hI0 _ _ | exact zin_and _ _ | (unfold zin; omega) | (unfold zin at *; omega)) (fun h62 => ?_) (fun h62 => ?_)
                · refine wp_aload_n (t := 33) rfl rfl ?_
                  refine wp_iload_n (t := 34) rfl rfl ?_
                  refine wp_iload_n (t := 35) rfl rfl ?_
                  refine wp_iload (t := 36) rfl rfl ?_
                  refine wp_iload_n (t := 37) rfl rfl ?_
                  refine wp_vi (ci := 10) (c_X10_judge (d := d) hW hn hchJ hplJ htkJ ⟨hc.1, by omega⟩ ⟨hw.1, by omega⟩ ⟨by omega, by omega⟩ hwo) (t := 38) rfl kX10_245 rfl rfl (by omega) (by first | rfl | assumption) ⟨_, _, rfl⟩ (Nat.le_of_ble_eq_true rfl) ⟨Nat.le_refl _, Nat.le_refl _⟩ (fun r78 I78 R78 c78 => ?_)
                  refine wp_canon (fun hI4 => ?_)
                  obtain ⟨e78, zi78, zr78⟩ := c78
                  have zr78 := zr78.symm
                  subst zr78
                  have sm78 : mSm I I78 := mSm_trans sm (by rw [zi78]; exact mSm_told _ _)
                  have b78 : 0 ≤ r78 ∧ r78 ≤ 4 := by rw [e78]; exact sRea_b _ _ _ _
                  have ok78 : r78 = 0 ↔ sOk (mS J wo) c w (sTj (sU (mS J wo)) k) := by rw [e78, ec]; exact sRea_iff (by omega)
                  refine wp_if_ne (t := 39) (tgt := 89) rfl (by decide) (by first | assumption | exact hI4 _ _ | exact hI3 _ _ | exact hI2 _ _ | exact hI1 _ _ | exact hI0 _ _ | exact zin_and _ _ | (unfold zin; omega) | (unfold zin at *; omega)) (fun h81 => ?_) (fun h81 => ?_)
                  · refine wp_iload (t := 42) rfl rfl ?_
                    refine wp_istore (t := 43) rfl (by decide) rfl ?_
                    refine wp_iinc (t := 44) rfl rfl (by decide) rfl ?_
                    refine wp_goto (t := 45) (tgt := 7) rfl (by decide) ?_
                    refine ih (k + 1) _ _ _ (by omega) (by omega) (by omega) sm78 ?_
                    rw [← eS]
                    exact sIm_keep hs (Or.inr (Or.inr (fun q => h81 (ok78.mpr q))))
                  · refine wp_iload (t := 40) rfl rfl ?_
                    refine wp_goto (t := 41) (tgt := 91) rfl (by decide) ?_
                    refine wp_istore (t := 43) rfl (by decide) rfl ?_
                    refine wp_iinc (t := 44) rfl rfl (by decide) rfl ?_
                    refine wp_goto (t := 45) (tgt := 7) rfl (by decide) ?_
                    refine ih (k + 1) _ _ _ (by omega) (by omega) (by omega) sm78 ?_
                    rw [← eS]
                    have nw := sIm_new hs (by rw [ec]; omega) (ok78.mp (by omega)) (by rw [ec]; omega)
                    rw [ec] at nw
                    exact nw
                · refine wp_iload (t := 30) rfl rfl ?_
                  refine wp_iload (t := 31) rfl rfl ?_
                  refine wp_icmp_ge (t := 32) (tgt := 89) rfl (by decide) (by first | assumption | exact hI3 _ _ | exact hI2 _ _ | exact hI1 _ _ | exact hI0 _ _ | exact zin_and _ _ | (unfold zin; omega) | (unfold zin at *; omega)) (by first | assumption | exact hI3 _ _ | exact hI2 _ _ | exact hI1 _ _ | exact hI0 _ _ | exact zin_and _ _ | (unfold zin; omega) | (unfold zin at *; omega)) (fun h69 => ?_) (fun h69 => ?_)
                  · refine wp_iload (t := 42) rfl rfl ?_
                    refine wp_istore (t := 43) rfl (by decide) rfl ?_
                    refine wp_iinc (t := 44) rfl rfl (by decide) rfl ?_
                    refine wp_goto (t := 45) (tgt := 7) rfl (by decide) ?_
                    refine ih (k + 1) _ _ _ (by omega) (by omega) (by omega) sm ?_
                    rw [← eS]
                    exact sIm_keep hs (Or.inr (Or.inl ⟨by omega, by omega⟩))
                  · refine wp_aload_n (t := 33) rfl rfl ?_
                    refine wp_iload_n (t := 34) rfl rfl ?_
                    refine wp_iload_n (t := 35) rfl rfl ?_
                    refine wp_iload (t := 36) rfl rfl ?_
                    refine wp_iload_n (t := 37) rfl rfl ?_
                    refine wp_vi (ci := 10) (c_X10_judge (d := d) hW hn hchJ hplJ htkJ ⟨hc.1, by omega⟩ ⟨hw.1, by omega⟩ ⟨by omega, by omega⟩ hwo) (t := 38) rfl kX10_245 rfl rfl (by omega) (by first | rfl | assumption) ⟨_, _, rfl⟩ (Nat.le_of_ble_eq_true rfl) ⟨Nat.le_refl _, Nat.le_refl _⟩ (fun r78 I78 R78 c78 => ?_)
                    refine wp_canon (fun hI4 => ?_)
                    obtain ⟨e78, zi78, zr78⟩ := c78
                    have zr78 := zr78.symm
                    subst zr78
                    have sm78 : mSm I I78 := mSm_trans sm (by rw [zi78]; exact mSm_told _ _)
                    have b78 : 0 ≤ r78 ∧ r78 ≤ 4 := by rw [e78]; exact sRea_b _ _ _ _
                    have ok78 : r78 = 0 ↔ sOk (mS J wo) c w (sTj (sU (mS J wo)) k) := by rw [e78, ec]; exact sRea_iff (by omega)
                    refine wp_if_ne (t := 39) (tgt := 89) rfl (by decide) (by first | assumption | exact hI4 _ _ | exact hI3 _ _ | exact hI2 _ _ | exact hI1 _ _ | exact hI0 _ _ | exact zin_and _ _ | (unfold zin; omega) | (unfold zin at *; omega)) (fun h81 => ?_) (fun h81 => ?_)
                    · refine wp_iload (t := 42) rfl rfl ?_
                      refine wp_istore (t := 43) rfl (by decide) rfl ?_
                      refine wp_iinc (t := 44) rfl rfl (by decide) rfl ?_
                      refine wp_goto (t := 45) (tgt := 7) rfl (by decide) ?_
                      refine ih (k + 1) _ _ _ (by omega) (by omega) (by omega) sm78 ?_
                      rw [← eS]
                      exact sIm_keep hs (Or.inr (Or.inr (fun q => h81 (ok78.mpr q))))
                    · refine wp_iload (t := 40) rfl rfl ?_
                      refine wp_goto (t := 41) (tgt := 91) rfl (by decide) ?_
                      refine wp_istore (t := 43) rfl (by decide) rfl ?_
                      refine wp_iinc (t := 44) rfl rfl (by decide) rfl ?_
                      refine wp_goto (t := 45) (tgt := 7) rfl (by decide) ?_
                      refine ih (k + 1) _ _ _ (by omega) (by omega) (by omega) sm78 ?_
                      rw [← eS]
                      have nw := sIm_new hs (by rw [ec]; omega) (ok78.mp (by omega)) (by rw [ec]; omega)
                      rw [ec] at nw
                      exact nw
          · refine wp_iconst (t := 14) rfl ?_
            refine wp_goto (t := 15) (tgt := 53) rfl (by decide) ?_
            have ec : sTj (sU (mS J wo)) k = 0 := if_pos (by omega)
            refine wp_istore (t := 25) rfl (by decide) rfl ?_
            refine wp_iload (t := 26) rfl rfl ?_
            refine wp_if_lt (t := 27) (tgt := 89) rfl (by decide) (by first | assumption | exact hI1 _ _ | exact hI0 _ _ | exact zin_and _ _ | (unfold zin; omega) | (unfold zin at *; omega)) (fun h57 => ?_) (fun h57 => ?_)
            · exact absurd h57 (by omega)
            · refine wp_iload (t := 28) rfl rfl ?_
              refine wp_if_lt (t := 29) (tgt := 72) rfl (by decide) (by first | assumption | exact hI1 _ _ | exact hI0 _ _ | exact zin_and _ _ | (unfold zin; omega) | (unfold zin at *; omega)) (fun h62 => ?_) (fun h62 => ?_)
              · refine wp_aload_n (t := 33) rfl rfl ?_
                refine wp_iload_n (t := 34) rfl rfl ?_
                refine wp_iload_n (t := 35) rfl rfl ?_
                refine wp_iload (t := 36) rfl rfl ?_
                refine wp_iload_n (t := 37) rfl rfl ?_
                refine wp_vi (ci := 10) (c_X10_judge (d := d) hW hn hchJ hplJ htkJ ⟨hc.1, by omega⟩ ⟨hw.1, by omega⟩ ⟨by omega, by omega⟩ hwo) (t := 38) rfl kX10_245 rfl rfl (by omega) (by first | rfl | assumption) ⟨_, _, rfl⟩ (Nat.le_of_ble_eq_true rfl) ⟨Nat.le_refl _, Nat.le_refl _⟩ (fun r78 I78 R78 c78 => ?_)
                refine wp_canon (fun hI2 => ?_)
                obtain ⟨e78, zi78, zr78⟩ := c78
                have zr78 := zr78.symm
                subst zr78
                have sm78 : mSm I I78 := mSm_trans sm (by rw [zi78]; exact mSm_told _ _)
                have b78 : 0 ≤ r78 ∧ r78 ≤ 4 := by rw [e78]; exact sRea_b _ _ _ _
                have ok78 : r78 = 0 ↔ sOk (mS J wo) c w (sTj (sU (mS J wo)) k) := by rw [e78, ec]; exact sRea_iff (by omega)
                refine wp_if_ne (t := 39) (tgt := 89) rfl (by decide) (by first | assumption | exact hI2 _ _ | exact hI1 _ _ | exact hI0 _ _ | exact zin_and _ _ | (unfold zin; omega) | (unfold zin at *; omega)) (fun h81 => ?_) (fun h81 => ?_)
                · refine wp_iload (t := 42) rfl rfl ?_
                  refine wp_istore (t := 43) rfl (by decide) rfl ?_
                  refine wp_iinc (t := 44) rfl rfl (by decide) rfl ?_
                  refine wp_goto (t := 45) (tgt := 7) rfl (by decide) ?_
                  refine ih (k + 1) _ _ _ (by omega) (by omega) (by omega) sm78 ?_
                  rw [← eS]
                  exact sIm_keep hs (Or.inr (Or.inr (fun q => h81 (ok78.mpr q))))
                · refine wp_iload (t := 40) rfl rfl ?_
                  refine wp_goto (t := 41) (tgt := 91) rfl (by decide) ?_
                  refine wp_istore (t := 43) rfl (by decide) rfl ?_
                  refine wp_iinc (t := 44) rfl rfl (by decide) rfl ?_
                  refine wp_goto (t := 45) (tgt := 7) rfl (by decide) ?_
                  refine ih (k + 1) _ _ _ (by omega) (by omega) (by omega) sm78 ?_
                  rw [← eS]
                  have nw := sIm_new hs (by rw [ec]; omega) (ok78.mp (by omega)) (by rw [ec]; omega)
                  rw [ec] at nw
                  exact nw
              · refine wp_iload (t := 30) rfl rfl ?_
                refine wp_iload (t := 31) rfl rfl ?_
                refine wp_icmp_ge (t := 32) (tgt := 89) rfl (by decide) (by first | assumption | exact hI1 _ _ | exact hI0 _ _ | exact zin_and _ _ | (unfold zin; omega) | (unfold zin at *; omega)) (by first | assumption | exact hI1 _ _ | exact hI0 _ _ | exact zin_and _ _ | (unfold zin; omega) | (unfold zin at *; omega)) (fun h69 => ?_) (fun h69 => ?_)
                · refine wp_iload (t := 42) rfl rfl ?_
                  refine wp_istore (t := 43) rfl (by decide) rfl ?_
                  refine wp_iinc (t := 44) rfl rfl (by decide) rfl ?_
                  refine wp_goto (t := 45) (tgt := 7) rfl (by decide) ?_
                  refine ih (k + 1) _ _ _ (by omega) (by omega) (by omega) sm ?_
                  rw [← eS]
                  exact sIm_keep hs (Or.inr (Or.inl ⟨by omega, by omega⟩))
                · refine wp_aload_n (t := 33) rfl rfl ?_
                  refine wp_iload_n (t := 34) rfl rfl ?_
                  refine wp_iload_n (t := 35) rfl rfl ?_
                  refine wp_iload (t := 36) rfl rfl ?_
                  refine wp_iload_n (t := 37) rfl rfl ?_
                  refine wp_vi (ci := 10) (c_X10_judge (d := d) hW hn hchJ hplJ htkJ ⟨hc.1, by omega⟩ ⟨hw.1, by omega⟩ ⟨by omega, by omega⟩ hwo) (t := 38) rfl kX10_245 rfl rfl (by omega) (by first | rfl | assumption) ⟨_, _, rfl⟩ (Nat.le_of_ble_eq_true rfl) ⟨Nat.le_refl _, Nat.le_refl _⟩ (fun r78 I78 R78 c78 => ?_)
                  refine wp_canon (fun hI2 => ?_)
                  obtain ⟨e78, zi78, zr78⟩ := c78
                  have zr78 := zr78.symm
                  subst zr78
                  have sm78 : mSm I I78 := mSm_trans sm (by rw [zi78]; exact mSm_told _ _)
                  have b78 : 0 ≤ r78 ∧ r78 ≤ 4 := by rw [e78]; exact sRea_b _ _ _ _
                  have ok78 : r78 = 0 ↔ sOk (mS J wo) c w (sTj (sU (mS J wo)) k) := by rw [e78, ec]; exact sRea_iff (by omega)
                  refine wp_if_ne (t := 39) (tgt := 89) rfl (by decide) (by first | assumption | exact hI2 _ _ | exact hI1 _ _ | exact hI0 _ _ | exact zin_and _ _ | (unfold zin; omega) | (unfold zin at *; omega)) (fun h81 => ?_) (fun h81 => ?_)
                  · refine wp_iload (t := 42) rfl rfl ?_
                    refine wp_istore (t := 43) rfl (by decide) rfl ?_
                    refine wp_iinc (t := 44) rfl rfl (by decide) rfl ?_
                    refine wp_goto (t := 45) (tgt := 7) rfl (by decide) ?_
                    refine ih (k + 1) _ _ _ (by omega) (by omega) (by omega) sm78 ?_
                    rw [← eS]
                    exact sIm_keep hs (Or.inr (Or.inr (fun q => h81 (ok78.mpr q))))
                  · refine wp_iload (t := 40) rfl rfl ?_
                    refine wp_goto (t := 41) (tgt := 91) rfl (by decide) ?_
                    refine wp_istore (t := 43) rfl (by decide) rfl ?_
                    refine wp_iinc (t := 44) rfl rfl (by decide) rfl ?_
                    refine wp_goto (t := 45) (tgt := 7) rfl (by decide) ?_
                    refine ih (k + 1) _ _ _ (by omega) (by omega) (by omega) sm78 ?_
                    rw [← eS]
                    have nw := sIm_new hs (by rw [ec]; omega) (ok78.mp (by omega)) (by rw [ec]; omega)
                    rw [ec] at nw
                    exact nw
  refine wp_ls (ls' := [some (zR 115), some (zI c), some (zI w), some (zI wo), none, none, none]) rfl ?_
  refine wp_bipush (t := 0) rfl (by decide) ?_
  refine wp_istore (t := 1) rfl (by decide) rfl ?_
  refine wp_iconst (t := 2) rfl ?_
  refine wp_istore (t := 3) rfl (by decide) rfl ?_
  exact key _ (-1) (-4) I none (by omega) (by omega) rfl (mSm_refl I) (Or.inl ⟨rfl, fun j g0 g1 => absurd g1 (by omega)⟩)
/-- one core put in the reference -/
def mput (I : zMem) (c w t : Int) : zMem := zu (zu I 122 (6 + c) w) 122 (12 + c) t
theorem mput_b {I : zMem} {c w t : Int} {b : Nat} (h : b ≠ 122) : mput I c w t b = I b := by
  unfold mput
  rw [zu_ne h, zu_ne h]
theorem mput_Sm {I J : zMem} {c w t : Int} (h : mSm I J) : mSm (mput I c w t) (mput J c w t) := by
  refine ⟨fun b hb => ?_, fun j hj => ?_⟩
  · by_cases e : b = 122
    · subst e
      funext j
      unfold mput zu
      rw [h.1 122 (by decide)]
    · rw [mput_b e, mput_b e, h.1 b hb]
  · rw [mput_b (by decide), mput_b (by decide), h.2 j hj]
def flI (z : Int × Int × Int) (b fr dn : Int) : Prop := (z.1 = 0 ∧ z.2.2 = 2000000 ∧ b = -4) ∨ (1 ≤ z.1 ∧ b = z.1 ∧ fr = z.2.1 ∧ dn = z.2.2)
set_option maxHeartbeats 4000000 in
set_option maxRecDepth 100000 in
theorem c_X10_fills {G : zG} {d n : Nat} {I : zMem} {R : zRef} {wo c : Int} (hW : zWir n R) (hn : 143 ≤ n) (hch : mCh I) (hpl : mPl I) (htk : mTk I) (hc : 0 ≤ c ∧ c < I 115 2) (hwo : zin wo) (hput : ¬ 0 < I 122 (6 + c)) : MT G mX10_fills (d + 5) 0 0 [zR 115, zI c, zI wo] n I R (zP1 (fun r I' R' => ((r = 0 ∧ (sFl (mS I wo) c 2000000 (I 115 0).toNat).1 = 0 ∧ mSm I I') ∨ (r = 1 ∧ (sFl (mS I wo) c 2000000 (I 115 0).toNat).1 ≠ 0 ∧ mSm (mput I c (sFl (mS I wo) c 2000000 (I 115 0).toNat).1 (sFl (mS I wo) c 2000000 (I 115 0).toNat).2.1) I')) ∧ R' = R)) := by
  refine MT.of (by decide +kernel) tX10_fills_ok (Nat.le_of_ble_eq_true rfl) (fun hI0 => ?_)
  have hco := hch.1
  have hli := hch.2.1
  obtain ⟨f1, f2, f3, f4, f5, f6⟩ := mS_facts (wo := wo) hch hpl htk
  have hM : ∀ k : Nat, (k : Int) ≤ I 115 0 → (sFl (mS I wo) c 2000000 k).2.1 ≤ 1010000 := fun k hk => sFl_le f1 (by omega) (fun a a0 a1 a2 => (f6 a a0 a1 a2).2) k (fun w g0 g1 => by
    have := f5 c w hc.1 hc.2 g0 (by show w ≤ I 115 0; omega)
    omega)
  have key : ∀ (m : Nat) (w b fr dn : Int) (J : zMem) (x7 : Option zV), 1 ≤ w → w ≤ I 115 0 + 1 → (I 115 0 + 1 - w).toNat = m → mSm I J → flI (sFl (mS I wo) c 2000000 (w - 1).toNat) b fr dn → zin fr → zin dn →
      WP G mX10_fills (d + 5) 0 0 0 0 13 [some (zR 115), some (zI c), some (zI wo), some (zI b), some (zI fr), some (zI dn), some (zI w), x7] [] n J R (zP1 (fun r I' R' => ((r = 0 ∧ (sFl (mS I wo) c 2000000 (I 115 0).toNat).1 = 0 ∧ mSm I I') ∨ (r = 1 ∧ (sFl (mS I wo) c 2000000 (I 115 0).toNat).1 ≠ 0 ∧ mSm (mput I c (sFl (mS I wo) c 2000000 (I 115 0).toNat).1 (sFl (mS I wo) c 2000000 (I 115 0).toNat).2.1) I')) ∧ R' = R)) := by
    intro m
    induction m with
    | zero =>
      intro w b fr dn J x7 h0 h1 hm sm hz hzf hzd
      have e0 : J 115 0 = I 115 0 := sm.2 0 (by decide)
      rw [show w - 1 = I 115 0 by omega] at hz
      have sp := sFl_spec (S := mS I wo) (c := c) (y := 2000000) (I 115 0).toNat
      generalize hzz : sFl (mS I wo) c 2000000 (I 115 0).toNat = z at *
      have zb : b = -4 ∨ (1 ≤ b ∧ b ≤ 8) := by
        rcases hz with q | q
        · exact Or.inl q.2.2
        · rcases sp.2.2 with q2 | q2 <;> omega
      refine wp_canon (fun hI0 => ?_)
      refine wp_iload (t := 8) rfl rfl ?_
      refine wp_aload_n (t := 9) rfl rfl ?_
      refine wp_getI (t := 10) (ji := 0) rfl fX10_91 rfl rfl (by omega) (by first | rfl | assumption) ?_
      refine wp_icmp_gt (t := 11) (tgt := 91) rfl (by decide) (by first | assumption | exact hI0 _ _ | exact zin_and _ _ | (unfold zin; omega) | (unfold zin at *; omega)) (by first | assumption | exact hI0 _ _ | exact zin_and _ _ | (unfold zin; omega) | (unfold zin at *; omega)) (fun h19 => ?_) (fun h19 => ?_)
      · refine wp_iload_n (t := 51) rfl rfl ?_
        refine wp_if_le (t := 52) (tgt := 103) rfl (by decide) (by first | assumption | exact hI0 _ _ | exact zin_and _ _ | (unfold zin; omega) | (unfold zin at *; omega)) (fun h92 => ?_) (fun h92 => ?_)
        · refine wp_iload_n (t := 58) rfl rfl ?_
          refine wp_if_le (t := 59) (tgt := 111) rfl (by decide) (by first | assumption | exact hI0 _ _ | exact zin_and _ _ | (unfold zin; omega) | (unfold zin at *; omega)) (fun h104 => ?_) (fun h104 => ?_)
          · refine wp_iconst (t := 62) rfl ?_
            refine wp_zreturn (t := 63) rfl rfl (by omega) ?_
            refine ⟨_, rfl, Or.inl ⟨rfl, ?_, sm⟩, rfl⟩
            rcases hz with q | q <;> omega
          · exact absurd h104 (by omega)
        · refine wp_aload_n (t := 53) rfl rfl ?_
          refine wp_iload_n (t := 54) rfl rfl ?_
          refine wp_iload_n (t := 55) rfl rfl ?_
          refine wp_iload (t := 56) rfl rfl ?_
          refine wp_vv (ci := 10) (c_X10_putAt (d := d + 4) hW hn ⟨hc.1, by omega⟩ (by unfold zin; omega) hzf) (t := 57) rfl kX10_257 rfl rfl (by omega) (by first | rfl | assumption) ⟨_, _, rfl⟩ (Nat.le_of_ble_eq_true rfl) ⟨Nat.le_refl _, Nat.le_refl _⟩ (fun I100 R100 c100 => ?_)
          refine wp_canon (fun hI1 => ?_)
          obtain ⟨zi100, zr100⟩ := c100
          subst zi100
          have zr100 := zr100.symm
          subst zr100
          refine wp_iload_n (t := 58) rfl rfl ?_
          refine wp_if_le (t := 59) (tgt := 111) rfl (by decide) (by first | assumption | exact hI1 _ _ | exact hI0 _ _ | exact zin_and _ _ | (unfold zin; omega) | (unfold zin at *; omega)) (fun h104 => ?_) (fun h104 => ?_)
          · exact absurd h104 (by omega)
          · refine wp_iconst (t := 60) rfl ?_
            refine wp_goto (t := 61) (tgt := 112) rfl (by decide) ?_
            refine wp_zreturn (t := 63) rfl rfl (by omega) ?_
            refine ⟨_, rfl, Or.inr ⟨rfl, ?_, ?_⟩, rfl⟩
            · rcases hz with q | q <;> omega
            · rcases hz with q | q
              · omega
              · rw [← q.2.1, ← q.2.2.1]
                exact mput_Sm sm
      · exact absurd h19 (by omega)
    | succ m ih =>
      intro w b fr dn J x7 h0 h1 hm sm hz hzf hzd
      have e2 : J 115 2 = I 115 2 := sm.2 2 (by decide)
      have e0 : J 115 0 = I 115 0 := sm.2 0 (by decide)
      have e122 : J 122 = I 122 := sm.1 122 (by decide)
      have eS := mSm_S (wo := wo) sm
      have hT := htk c w hc.1 hc.2 h0 (by omega)
      have sp := sFl_spec (S := mS I wo) (c := c) (y := 2000000) (w - 1).toNat
      have hs := sFl_succ (S := mS I wo) (c := c) (y := 2000000) h0
      have hm1 := hM (w - 1).toNat (by omega)
      have eww : (w + 1 - 1).toNat = w.toNat := by rw [show w + 1 - 1 = w by omega]
      generalize hzz : sFl (mS I wo) c 2000000 (w - 1).toNat = z at hz sp hs hm1
      rw [sSoon_cut (Y := 2000000) sp.1] at hs
      have zb : b = -4 ∨ (1 ≤ b ∧ b ≤ 8) := by
        rcases hz with q | q
        · exact Or.inl q.2.2
        · rcases sp.2.2 with q2 | q2 <;> omega
      have hTs : sT (mS I wo) c w = I 137 (9 * c + w) := rfl
      rw [hTs] at hs
      refine wp_canon (fun hI0 => ?_)
      refine wp_iload (t := 8) rfl rfl ?_
      refine wp_aload_n (t := 9) rfl rfl ?_
      refine wp_getI (t := 10) (ji := 0) rfl fX10_91 rfl rfl (by omega) (by first | rfl | assumption) ?_
      refine wp_icmp_gt (t := 11) (tgt := 91) rfl (by decide) (by first | assumption | exact hI0 _ _ | exact zin_and _ _ | (unfold zin; omega) | (unfold zin at *; omega)) (by first | assumption | exact hI0 _ _ | exact zin_and _ _ | (unfold zin; omega) | (unfold zin at *; omega)) (fun h19 => ?_) (fun h19 => ?_)
      · exact absurd h19 (by omega)
      · refine wp_aload_n (t := 12) rfl rfl ?_
        refine wp_iload_n (t := 13) rfl rfl ?_
        refine wp_iload (t := 14) rfl rfl ?_
        refine wp_iload_n (t := 15) rfl rfl ?_
        refine wp_vi (ci := 10) (c_X10_soonestOf (d := d) hW hn (mSm_Ch sm hch) (mSm_Pl sm hpl) (mSm_Tk sm htk) ⟨hc.1, by omega⟩ ⟨h0, by omega⟩ hwo (by rw [e122]; exact hput)) (t := 16) rfl kX10_264 rfl rfl (by omega) (by first | rfl | assumption) ⟨_, _, rfl⟩ (Nat.le_of_ble_eq_true rfl) ⟨Nat.le_refl _, Nat.le_refl _⟩ (fun r27 I27 R27 c27 => ?_)
        refine wp_canon (fun hI1 => ?_)
        obtain ⟨⟨e27, b27, sm27⟩, zr27⟩ := c27
        have zr27 := zr27.symm
        subst zr27
        rw [eS] at e27
        rw [← e27] at hs
        have sm9 := mSm_trans sm sm27
        have e137 : I27 137 = I 137 := sm9.1 137 (by decide)
        refine wp_istore (t := 17) rfl (by decide) rfl ?_
        refine wp_iload (t := 18) rfl rfl ?_
        refine wp_if_lt (t := 19) (tgt := 85) rfl (by decide) (by first | assumption | exact hI1 _ _ | exact hI0 _ _ | exact zin_and _ _ | (unfold zin; omega) | (unfold zin at *; omega)) (fun h34 => ?_) (fun h34 => ?_)
        · refine wp_iinc (t := 49) rfl rfl (by decide) rfl ?_
          refine wp_goto (t := 50) (tgt := 13) rfl (by decide) ?_
          refine ih (w + 1) _ _ _ _ _ (by omega) (by omega) (by omega) sm9 ?_ hzf hzd
          rw [eww, hs, if_neg (by rw [if_neg (by omega)]; omega)]
          exact hz
        · refine wp_iload_n (t := 20) rfl rfl ?_
          refine wp_if_lt (t := 21) (tgt := 61) rfl (by decide) (by first | assumption | exact hI1 _ _ | exact hI0 _ _ | exact zin_and _ _ | (unfold zin; omega) | (unfold zin at *; omega)) (fun h38 => ?_) (fun h38 => ?_)
          · refine wp_iload (t := 34) rfl rfl ?_
            refine wp_istore_n (t := 35) rfl (by decide) rfl ?_
            refine wp_iload (t := 36) rfl rfl ?_
            refine wp_istore (t := 37) rfl (by decide) rfl ?_
            refine wp_iload (t := 38) rfl rfl ?_
            refine wp_aload_n (t := 39) rfl rfl ?_
            refine wp_getR (t := 40) (ji := 36) rfl fX10_73 rfl rfl (by omega) (by first | rfl | assumption) (by first | exact hW _ _ _ (by omega) rfl | assumption) ?_
            refine wp_bipush (t := 41) rfl (by decide) ?_
            refine wp_iload_n (t := 42) rfl rfl ?_
            refine wp_imul (t := 43) rfl ?_
            refine wp_iload (t := 44) rfl rfl ?_
            refine wp_iadd (t := 45) rfl ?_
            refine wp_iaload (t := 46) rfl (by omega) (by first | rfl | assumption) (by omega) (by omega) (by omega) ?_
            rw [e137]
            refine wp_iadd (t := 47) rfl ?_
            refine wp_istore (t := 48) rfl (by decide) rfl ?_
            refine wp_iinc (t := 49) rfl rfl (by decide) rfl ?_
            refine wp_goto (t := 50) (tgt := 13) rfl (by decide) ?_
            refine ih (w + 1) _ _ _ _ _ (by omega) (by omega) (by omega) sm9 ?_ (by unfold zin; omega) (by unfold zin; omega)
            rw [eww, hs]
            have qq : ¬ r27 = -4 ∧ r27 + I 137 (9 * c + w) < z.2.2 := by rcases hz with q | q <;> omega
            rw [if_pos qq, if_pos (by omega)]
            exact Or.inr ⟨h0, rfl, rfl, rfl⟩
          · refine wp_iload (t := 22) rfl rfl ?_
            refine wp_aload_n (t := 23) rfl rfl ?_
            refine wp_getR (t := 24) (ji := 36) rfl fX10_73 rfl rfl (by omega) (by first | rfl | assumption) (by first | exact hW _ _ _ (by omega) rfl | assumption) ?_
            refine wp_bipush (t := 25) rfl (by decide) ?_
            refine wp_iload_n (t := 26) rfl rfl ?_
            refine wp_imul (t := 27) rfl ?_
            refine wp_iload (t := 28) rfl rfl ?_
            refine wp_iadd (t := 29) rfl ?_
            refine wp_iaload (t := 30) rfl (by omega) (by first | rfl | assumption) (by omega) (by omega) (by omega) ?_
            rw [e137]
            refine wp_iadd (t := 31) rfl ?_
            refine wp_iload (t := 32) rfl rfl ?_
            refine wp_icmp_ge (t := 33) (tgt := 85) rfl (by decide) (by first | assumption | exact hI1 _ _ | exact hI0 _ _ | exact zin_and _ _ | (unfold zin; omega) | (unfold zin at *; omega)) (by first | assumption | exact hI1 _ _ | exact hI0 _ _ | exact zin_and _ _ | (unfold zin; omega) | (unfold zin at *; omega)) (fun h58 => ?_) (fun h58 => ?_)
            · refine wp_iinc (t := 49) rfl rfl (by decide) rfl ?_
              refine wp_goto (t := 50) (tgt := 13) rfl (by decide) ?_
              refine ih (w + 1) _ _ _ _ _ (by omega) (by omega) (by omega) sm9 ?_ hzf hzd
              rw [eww, hs, if_neg (by rw [if_neg (by rcases hz with q | q <;> omega)]; omega)]
              exact hz
            · refine wp_iload (t := 34) rfl rfl ?_
              refine wp_istore_n (t := 35) rfl (by decide) rfl ?_
              refine wp_iload (t := 36) rfl rfl ?_
              refine wp_istore (t := 37) rfl (by decide) rfl ?_
              refine wp_iload (t := 38) rfl rfl ?_
              refine wp_aload_n (t := 39) rfl rfl ?_
              refine wp_getR (t := 40) (ji := 36) rfl fX10_73 rfl rfl (by omega) (by first | rfl | assumption) (by first | exact hW _ _ _ (by omega) rfl | assumption) ?_
              refine wp_bipush (t := 41) rfl (by decide) ?_
              refine wp_iload_n (t := 42) rfl rfl ?_
              refine wp_imul (t := 43) rfl ?_
              refine wp_iload (t := 44) rfl rfl ?_
              refine wp_iadd (t := 45) rfl ?_
              refine wp_iaload (t := 46) rfl (by omega) (by first | rfl | assumption) (by omega) (by omega) (by omega) ?_
              rw [e137]
              refine wp_iadd (t := 47) rfl ?_
              refine wp_istore (t := 48) rfl (by decide) rfl ?_
              refine wp_iinc (t := 49) rfl rfl (by decide) rfl ?_
              refine wp_goto (t := 50) (tgt := 13) rfl (by decide) ?_
              refine ih (w + 1) _ _ _ _ _ (by omega) (by omega) (by omega) sm9 ?_ (by unfold zin; omega) (by unfold zin; omega)
              rw [eww, hs]
              have qq : ¬ r27 = -4 ∧ r27 + I 137 (9 * c + w) < z.2.2 := by rcases hz with q | q <;> omega
              rw [if_pos qq, if_pos (by omega)]
              exact Or.inr ⟨h0, rfl, rfl, rfl⟩
  refine wp_ls (ls' := [some (zR 115), some (zI c), some (zI wo), none, none, none, none, none]) rfl ?_
  refine wp_bipush (t := 0) rfl (by decide) ?_
  refine wp_istore_n (t := 1) rfl (by decide) rfl ?_
  refine wp_bipush (t := 2) rfl (by decide) ?_
  refine wp_istore (t := 3) rfl (by decide) rfl ?_
  refine wp_iconst (t := 4) rfl ?_
  refine wp_istore (t := 5) rfl (by decide) rfl ?_
  refine wp_iconst (t := 6) rfl ?_
  refine wp_istore (t := 7) rfl (by decide) rfl ?_
  exact key _ 1 (-4) (-4) 0 I none (by omega) (by omega) rfl (mSm_refl I) (Or.inl ⟨rfl, rfl, rfl⟩) (by unfold zin; omega) (by unfold zin; omega)
