/-! the reference: too much, judging, the soonest, filling one core -/
def ovC (S : zS) (t j : Int) : Int := if j < 0 then t else if 0 < sW S j then sF S j else -4
def ovG (S : zS) (what most t en x : Int) : Prop := (t ≤ x ∧ x < en) ∧ most < sUse S what x
def ovI (S : zS) (what most t en f i : Int) : Prop := (f = -4 ∧ ∀ j : Int, -1 ≤ j → j < i → ¬ ovG S what most t en (ovC S t j)) ∨ (ovG S what most t en f ∧ ∀ j : Int, -1 ≤ j → j < i → ovG S what most t en (ovC S t j) → f ≤ ovC S t j)
theorem ovI_keep {S : zS} {what most t en f i : Int} (h : ovI S what most t en f i) (hq : ¬ ovG S what most t en (ovC S t i) ∨ (f ≠ -4 ∧ f ≤ ovC S t i)) : ovI S what most t en f (i + 1) := by
  rcases h with ⟨h0, h⟩ | ⟨h0, h⟩
  · refine Or.inl ⟨h0, fun j g0 g1 => ?_⟩
    by_cases e : j = i
    · subst e
      rcases hq with q | q
      · exact q
      · exact absurd h0 q.1
    · exact h j g0 (by omega)
  · refine Or.inr ⟨h0, fun j g0 g1 g2 => ?_⟩
    by_cases e : j = i
    · subst e
      rcases hq with q | q
      · exact absurd g2 q
      · exact q.2
    · exact h j g0 (by omega) g2
theorem ovI_new {S : zS} {what most t en f i : Int} (h : ovI S what most t en f i) (hg : ovG S what most t en (ovC S t i)) (hf : f = -4 ∨ ovC S t i < f) (ht : 0 ≤ t) : ovI S what most t en (ovC S t i) (i + 1) := by
  refine Or.inr ⟨hg, fun j g0 g1 g2 => ?_⟩
  by_cases e : j = i
  · rw [e]
    exact Int.le_refl _
  · rcases h with ⟨k0, h⟩ | ⟨k0, h⟩
    · exact absurd g2 (h j g0 (by omega))
    · have := h j g0 (by omega) g2
      have := k0.1.1
      omega
theorem ovI_end {S : zS} {what most t en f : Int} (hw : sWt S) (h01 : what = 0 ∨ what = 1) (ht : 0 ≤ t) (hlt : t < en) (hN : 0 ≤ sN S) (h : ovI S what most t en f (sN S)) : f = sOver S what most t en := by
  have c0 : ovC S t (-1) = t := if_pos (by omega)
  have cc : ∀ c : Int, 0 ≤ c → 0 < sW S c → ovC S t c = sF S c := fun c h0 h1 => by
    unfold ovC
    rw [if_neg (by omega), if_pos h1]
  rcases h with ⟨h0, h⟩ | ⟨h0, h⟩
  · have q := h (-1) (by omega) (by omega)
    rw [c0] at q
    refine sOver_cand hw h01 ht ?_ (Or.inl ⟨h0, fun c g0 g1 g2 g3 g4 => ?_⟩)
    · by_cases e : sUse S what t ≤ most
      · exact e
      · exact absurd ⟨⟨Int.le_refl _, hlt⟩, by omega⟩ q
    · have q2 := h c (by omega) g1
      rw [cc c g0 g2] at q2
      by_cases e : sUse S what (sF S c) ≤ most
      · exact e
      · exact absurd ⟨⟨by omega, g4⟩, by omega⟩ q2
  · have q := h (-1) (by omega) (by omega)
    rw [c0] at q
    by_cases e : sUse S what t ≤ most
    · have ne : f ≠ t := fun e2 => by
        rw [e2] at h0
        have := h0.2
        omega
      have := h0.1
      refine sOver_cand hw h01 ht e (Or.inr ⟨by omega, h0.1.2, h0.2, fun c g0 g1 g2 g3 g4 g5 => ?_⟩)
      have q2 := h c (by omega) g1
      rw [cc c g0 g2] at q2
      exact q2 ⟨⟨by omega, g4⟩, g5⟩
    · have q3 := q ⟨⟨Int.le_refl _, hlt⟩, by omega⟩
      have := h0.1.1
      have e2 : f = t := by omega
      rw [e2]
      exact (sOver_some ht (Int.le_refl _) hlt (by omega) (fun s g1 g2 => absurd g1 (by omega))).symm
/-- the same but for what is told -/
def mSm (I J : zMem) : Prop := (∀ b : Nat, b ≠ 115 → J b = I b) ∧ ∀ j : Int, j ≠ 38 → J 115 j = I 115 j
theorem mSm_refl (I : zMem) : mSm I I := ⟨fun _ _ => rfl, fun _ _ => rfl⟩
theorem mSm_trans {I J K : zMem} (h : mSm I J) (h2 : mSm J K) : mSm I K := ⟨fun b hb => (h2.1 b hb).trans (h.1 b hb), fun j hj => (h2.2 j hj).trans (h.2 j hj)⟩
theorem mSm_told (I : zMem) (v : Int) : mSm I (zu I 115 38 v) := ⟨fun _ hb => zu_ne hb, fun _ hj => zu_ni hj⟩
theorem mSm_Ch {I J : zMem} (h : mSm I J) (hc : mCh I) : mCh J := by
  unfold mCh at hc ⊢
  rw [h.1 116 (by decide), h.1 117 (by decide), h.1 118 (by decide), h.1 119 (by decide), h.2 0 (by decide), h.2 1 (by decide), h.2 2 (by decide), h.2 3 (by decide)]
  exact hc
theorem mSm_Pl {I J : zMem} (h : mSm I J) (hc : mPl I) : mPl J := by
  unfold mPl at hc ⊢
  rw [h.1 122 (by decide), h.2 0 (by decide), h.2 2 (by decide)]
  exact hc
theorem mSm_Tk {I J : zMem} (h : mSm I J) (hc : mTk I) : mTk J := by
  unfold mTk at hc ⊢
  rw [h.1 137 (by decide), h.2 0 (by decide), h.2 2 (by decide)]
  exact hc
theorem mA_ext {I J : zMem} {wo : Int} (h3 : J 115 3 = I 115 3) (h20 : J 120 = I 120) (h21 : J 121 = I 121) : mA J wo = mA I wo := by
  funext a c
  unfold mA
  have : mRu J wo a c = mRu I wo a c := by
    funext b
    unfold mRu
    rw [h20, h21]
  rw [this, h3]
theorem mS_ext {I J : zMem} {wo : Int} (h : ∀ j : Int, 0 ≤ j → j < 4 → J 115 j = I 115 j) (h17 : J 117 = I 117) (h20 : J 120 = I 120) (h21 : J 121 = I 121) (h22 : J 122 = I 122) (h37 : J 137 = I 137) : mS J wo = mS I wo := by
  unfold mS
  rw [mA_ext (wo := wo) (h 3 (by decide) (by decide)) h20 h21, h17, h22, h37, h 0 (by decide) (by decide), h 1 (by decide) (by decide), h 2 (by decide) (by decide)]
theorem mSm_S {I J : zMem} {wo : Int} (h : mSm I J) : mS J wo = mS I wo := mS_ext (fun j h0 h1 => h.2 j (by omega)) (h.1 117 (by decide)) (h.1 120 (by decide)) (h.1 121 (by decide)) (h.1 122 (by decide)) (h.1 137 (by decide))
set_option maxHeartbeats 4000000 in
set_option maxRecDepth 100000 in
theorem c_X10_isTooMuch {G : zG} {d n : Nat} {I : zMem} {R : zRef} {wo t en what own most : Int} (hW : zWir n R) (hn : 143 ≤ n) (hch : mCh I) (hpl : mPl I) (htk : mTk I) (h01 : what = 0 ∨ what = 1) (ht : 0 ≤ t ∧ t ≤ 2000000) (hen : t < en ∧ en ≤ 2010000) (ho : 0 ≤ own ∧ own ≤ 1000) (hmo : 0 ≤ most ∧ most ≤ 1000) : MT G mX10_isTooMuch (d + 2) 0 0 [zR 115, zI t, zI en, zI what, zI own, zI most] n I R (zP1 (fun r I' R' => r = (if ¬ sOver (mS I wo) what (most - own) t en = -4 then 1 else 0) ∧ I' = zu I 115 38 (sOver (mS I wo) what (most - own) t en) ∧ R' = R)) := by
  refine MT.of (by decide +kernel) tX10_isTooMuch_ok (Nat.le_of_ble_eq_true rfl) (fun hI0 => ?_)
  have hco := hch.1
  have hli := hch.2.1
  obtain ⟨f1, f2, f3, f4, f5, f6⟩ := mS_facts (wo := wo) hch hpl htk
  have key : ∀ (m : Nat) (k f : Int) (x8 x9 : Option zV), -1 ≤ k → k ≤ I 115 2 → (I 115 2 - k).toNat = m → ovI (mS I wo) what (most - own) t en f k → WP G mX10_isTooMuch (d + 2) 0 0 0 0 7 [some (zR 115), some (zI t), some (zI en), some (zI what), some (zI own), some (zI most), some (zI f), some (zI k), x8, x9] [] n I R (zP1 (fun r I' R' => r = (if ¬ sOver (mS I wo) what (most - own) t en = -4 then 1 else 0) ∧ I' = zu I 115 38 (sOver (mS I wo) what (most - own) t en) ∧ R' = R)) := by
    intro m
    induction m with
    | zero =>
      intro k f x8 x9 h0 h1 hm hs
      have hf : f = -4 ∨ (0 ≤ f ∧ f < 2010000) := by
        rcases hs with ⟨q, -⟩ | ⟨q, -⟩
        · exact Or.inl q
        · have := q.1
          exact Or.inr (by omega)
      have ek : k = I 115 2 := by omega
      have ef := ovI_end (S := mS I wo) f1 h01 ht.1 hen.1 f2.1 (by rw [ek] at hs; exact hs)
      refine wp_iload (t := 4) rfl rfl ?_
      refine wp_aload_n (t := 5) rfl rfl ?_
      refine wp_getI (t := 6) (ji := 2) rfl fX10_115 rfl rfl (by omega) (by first | rfl | assumption) ?_
      refine wp_icmp_ge (t := 7) (tgt := 120) rfl (by decide) (by first | assumption | exact hI0 _ _ | exact zin_and _ _ | (unfold zin; omega) | (unfold zin at *; omega)) (by first | assumption | exact hI0 _ _ | exact zin_and _ _ | (unfold zin; omega) | (unfold zin at *; omega)) (fun h13 => ?_) (fun h13 => ?_)
      · refine wp_aload_n (t := 60) rfl rfl ?_
        refine wp_iload (t := 61) rfl rfl ?_
        refine wp_putI (t := 62) (ji := 38) rfl fX10_234 p10_38 rfl rfl (by omega) (by first | rfl | assumption) (by first | assumption | exact hI0 _ _ | exact zin_and _ _ | (unfold zin; omega) | (unfold zin at *; omega)) ?_
        refine wp_canon (fun hI1 => ?_)
        refine wp_iload (t := 63) rfl rfl ?_
        refine wp_if_lt (t := 64) (tgt := 135) rfl (by decide) (by first | assumption | exact hI1 _ _ | exact hI0 _ _ | exact zin_and _ _ | (unfold zin; omega) | (unfold zin at *; omega)) (fun h128 => ?_) (fun h128 => ?_)
        · refine wp_iconst (t := 67) rfl ?_
          refine wp_zreturn (t := 68) rfl rfl (by omega) ?_
          exact ⟨_, rfl, by rw [← ef]; first | rw [if_pos (by omega)] | rw [if_neg (by omega)], by rw [← ef], rfl⟩
        · refine wp_iconst (t := 65) rfl ?_
          refine wp_goto (t := 66) (tgt := 136) rfl (by decide) ?_
          refine wp_zreturn (t := 68) rfl rfl (by omega) ?_
          exact ⟨_, rfl, by rw [← ef]; first | rw [if_pos (by omega)] | rw [if_neg (by omega)], by rw [← ef], rfl⟩
      · exact absurd h13 (by omega)
    | succ m ih =>
      intro k f x8 x9 h0 h1 hm hs
      have hf : f = -4 ∨ (0 ≤ f ∧ f < 2010000) := by
        rcases hs with ⟨q, -⟩ | ⟨q, -⟩
        · exact Or.inl q
        · have := q.1
          exact Or.inr (by omega)
      have hsu : ∀ s, 0 ≤ sUse (mS I wo) what s ∧ sUse (mS I wo) what s ≤ 1600 := fun s => sUse_b f2 f3 f4 (by omega)
      have hpk : 0 ≤ k → 0 ≤ I 122 (12 + k) ∧ I 122 (12 + k) ≤ 1000000 := fun g => (hpl k g (by omega)).2.2
      refine wp_iload (t := 4) rfl rfl ?_
      refine wp_aload_n (t := 5) rfl rfl ?_
      refine wp_getI (t := 6) (ji := 2) rfl fX10_115 rfl rfl (by omega) (by first | rfl | assumption) ?_
      refine wp_icmp_ge (t := 7) (tgt := 120) rfl (by decide) (by first | assumption | exact hI0 _ _ | exact zin_and _ _ | (unfold zin; omega) | (unfold zin at *; omega)) (by first | assumption | exact hI0 _ _ | exact zin_and _ _ | (unfold zin; omega) | (unfold zin at *; omega)) (fun h13 => ?_) (fun h13 => ?_)
      · exact absurd h13 (by omega)
      · refine wp_iload (t := 8) rfl rfl ?_
        refine wp_if_ge (t := 9) (tgt := 25) rfl (by decide) (by first | assumption | exact hI0 _ _ | exact zin_and _ _ | (unfold zin; omega) | (unfold zin at *; omega)) (fun h18 => ?_) (fun h18 => ?_)
        · refine wp_aload_n (t := 12) rfl rfl ?_
          refine wp_iload (t := 13) rfl rfl ?_
          refine wp_vi (ci := 10) (c_X10_isPut (d := d + 1) hW hn ⟨by omega, by omega⟩) (t := 14) rfl kX10_215 rfl rfl (by omega) (by first | rfl | assumption) ⟨_, _, rfl⟩ (Nat.le_of_ble_eq_true rfl) ⟨Nat.le_refl _, Nat.le_refl _⟩ (fun r28 I28 R28 c28 => ?_)
          refine wp_canon (fun hI1 => ?_)
          obtain ⟨e28, zi28, zr28⟩ := c28
          have zi28 := zi28.symm
          subst zi28
          have zr28 := zr28.symm
          subst zr28
          have b28 : 0 ≤ r28 ∧ r28 ≤ 1 := by rw [e28]; split <;> omega
          have n28 : ¬ r28 = 0 → 0 < I 122 (6 + k) := fun h => by (rw [e28] at h; by_cases q : 0 < I 122 (6 + k); exact q; rw [if_neg q] at h; exact absurd rfl h)
          have m28 : r28 = 0 → ¬ (0 < I 122 (6 + k)) := fun h q => by (rw [e28, if_pos q] at h; exact absurd h (by decide))
          refine wp_if_eq (t := 15) (tgt := 47) rfl (by decide) (by first | assumption | exact hI1 _ _ | exact hI0 _ _ | exact zin_and _ _ | (unfold zin; omega) | (unfold zin at *; omega)) (fun h31 => ?_) (fun h31 => ?_)
          · refine wp_bipush (t := 23) rfl (by decide) ?_
            have ec : ovC (mS I wo) t k = -4 := by unfold ovC; rw [if_neg (by omega), if_neg (show ¬ 0 < sW (mS I wo) k from m28 (by omega))]
            refine wp_istore (t := 24) rfl (by decide) rfl ?_
            refine wp_iload (t := 25) rfl rfl ?_
            refine wp_i2l (t := 26) rfl (by first | assumption | exact hI1 _ _ | exact hI0 _ _ | exact zin_and _ _ | (unfold zin; omega) | (unfold zin at *; omega)) ?_
            refine wp_iload_n (t := 27) rfl rfl ?_
            refine wp_i2l (t := 28) rfl (by first | assumption | exact hI1 _ _ | exact hI0 _ _ | exact zin_and _ _ | (unfold zin; omega) | (unfold zin at *; omega)) ?_
            refine wp_iload_n (t := 29) rfl rfl ?_
            refine wp_iconst (t := 30) rfl ?_
            refine wp_isub (t := 31) rfl ?_
            refine wp_i2l (t := 32) rfl (by first | assumption | exact hI1 _ _ | exact hI0 _ _ | exact zin_and _ _ | (unfold zin; omega) | (unfold zin at *; omega)) ?_
            refine wp_si (c_X10_in (d := d + 1) (zin_long (by first | exact hI0 _ _ | (unfold zin; omega))) (by unfold zinL; omega) (by unfold zinL; omega)) (t := 33) rfl kX10_124 rfl rfl (Nat.le_of_ble_eq_true rfl) ⟨Nat.le_refl _, Nat.le_refl _⟩ (fun r60 I60 R60 c60 => ?_)
            refine wp_canon (fun hI2 => ?_)
            obtain ⟨e60, zi60, zr60⟩ := c60
            have zi60 := zi60.symm
            subst zi60
            have zr60 := zr60.symm
            subst zr60
            have b60 : 0 ≤ r60 ∧ r60 ≤ 1 := by rw [e60]; split <;> omega
            have n60 : ¬ r60 = 0 → t ≤ -4 ∧ -4 ≤ en - 1 := fun h => by (rw [e60] at h; by_cases q : t ≤ -4 ∧ -4 ≤ en - 1; exact q; rw [if_neg q] at h; exact absurd rfl h)
            have m60 : r60 = 0 → ¬ (t ≤ -4 ∧ -4 ≤ en - 1) := fun h q => by (rw [e60, if_pos q] at h; exact absurd h (by decide))
            refine wp_if_eq (t := 34) (tgt := 85) rfl (by decide) (by first | assumption | exact hI2 _ _ | exact hI1 _ _ | exact hI0 _ _ | exact zin_and _ _ | (unfold zin; omega) | (unfold zin at *; omega)) (fun h63 => ?_) (fun h63 => ?_)
            · refine wp_iconst (t := 45) rfl ?_
              refine wp_istore (t := 46) rfl (by decide) rfl ?_
              refine wp_iload (t := 47) rfl rfl ?_
              refine wp_if_eq (t := 48) (tgt := 110) rfl (by decide) (by first | assumption | exact hI2 _ _ | exact hI1 _ _ | exact hI0 _ _ | exact zin_and _ _ | (unfold zin; omega) | (unfold zin at *; omega)) (fun h90 => ?_) (fun h90 => ?_)
              · refine wp_iload (t := 56) rfl rfl ?_
                refine wp_istore (t := 57) rfl (by decide) rfl ?_
                refine wp_iinc (t := 58) rfl rfl (by decide) rfl ?_
                refine wp_goto (t := 59) (tgt := 7) rfl (by decide) ?_
                refine ih (k + 1) _ _ _ (by omega) (by omega) (by omega) (ovI_keep hs (Or.inl (fun g => ?_)))
                rw [ec] at g
                have := g.1
                exact m60 (by omega) ⟨by omega, by omega⟩
              · exact absurd h90 (by omega)
            · refine wp_aload_n (t := 35) rfl rfl ?_
              refine wp_iload (t := 36) rfl rfl ?_
              refine wp_iload_n (t := 37) rfl rfl ?_
              refine wp_vi (ci := 10) (c_X10_runsIn (wo := wo) (d := d) hW hn hch hpl htk (by unfold zin; omega) (by first | exact hI0 _ _ | (unfold zin; omega))) (t := 38) rfl kX10_231 rfl rfl (by omega) (by first | rfl | assumption) ⟨_, _, rfl⟩ (Nat.le_of_ble_eq_true rfl) ⟨Nat.le_refl _, Nat.le_refl _⟩ (fun r70 I70 R70 c70 => ?_)
              refine wp_canon (fun hI3 => ?_)
              obtain ⟨e70, zi70, zr70⟩ := c70
              have zi70 := zi70.symm
              subst zi70
              have zr70 := zr70.symm
              subst zr70
              have hsu70 : 0 ≤ r70 ∧ r70 ≤ 1600 := by rw [e70]; exact hsu _
              refine wp_iload (t := 39) rfl rfl ?_
              refine wp_iadd (t := 40) rfl ?_
              refine wp_iload (t := 41) rfl rfl ?_
              refine wp_icmp_le (t := 42) (tgt := 85) rfl (by decide) (by first | assumption | exact hI3 _ _ | exact hI2 _ _ | exact hI1 _ _ | exact hI0 _ _ | exact zin_and _ _ | (unfold zin; omega) | (unfold zin at *; omega)) (by first | assumption | exact hI3 _ _ | exact hI2 _ _ | exact hI1 _ _ | exact hI0 _ _ | exact zin_and _ _ | (unfold zin; omega) | (unfold zin at *; omega)) (fun h78 => ?_) (fun h78 => ?_)
              · refine wp_iconst (t := 45) rfl ?_
                refine wp_istore (t := 46) rfl (by decide) rfl ?_
                refine wp_iload (t := 47) rfl rfl ?_
                refine wp_if_eq (t := 48) (tgt := 110) rfl (by decide) (by first | assumption | exact hI3 _ _ | exact hI2 _ _ | exact hI1 _ _ | exact hI0 _ _ | exact zin_and _ _ | (unfold zin; omega) | (unfold zin at *; omega)) (fun h90 => ?_) (fun h90 => ?_)
                · refine wp_iload (t := 56) rfl rfl ?_
                  refine wp_istore (t := 57) rfl (by decide) rfl ?_
                  refine wp_iinc (t := 58) rfl rfl (by decide) rfl ?_
                  refine wp_goto (t := 59) (tgt := 7) rfl (by decide) ?_
                  refine ih (k + 1) _ _ _ (by omega) (by omega) (by omega) (ovI_keep hs (Or.inl (fun g => ?_)))
                  rw [ec] at g
                  have := g.2
                  omega
                · exact absurd h90 (by omega)
              · refine wp_iconst (t := 43) rfl ?_
                refine wp_goto (t := 44) (tgt := 86) rfl (by decide) ?_
                refine wp_istore (t := 46) rfl (by decide) rfl ?_
                refine wp_iload (t := 47) rfl rfl ?_
                refine wp_if_eq (t := 48) (tgt := 110) rfl (by decide) (by first | assumption | exact hI3 _ _ | exact hI2 _ _ | exact hI1 _ _ | exact hI0 _ _ | exact zin_and _ _ | (unfold zin; omega) | (unfold zin at *; omega)) (fun h90 => ?_) (fun h90 => ?_)
                · exact absurd h90 (by omega)
                · refine wp_iload (t := 49) rfl rfl ?_
                  refine wp_if_lt (t := 50) (tgt := 105) rfl (by decide) (by first | assumption | exact hI3 _ _ | exact hI2 _ _ | exact hI1 _ _ | exact hI0 _ _ | exact zin_and _ _ | (unfold zin; omega) | (unfold zin at *; omega)) (fun h95 => ?_) (fun h95 => ?_)
                  · refine wp_iload (t := 54) rfl rfl ?_
                    refine wp_goto (t := 55) (tgt := 112) rfl (by decide) ?_
                    refine wp_istore (t := 57) rfl (by decide) rfl ?_
                    refine wp_iinc (t := 58) rfl rfl (by decide) rfl ?_
                    refine wp_goto (t := 59) (tgt := 7) rfl (by decide) ?_
                    have nw := ovI_new hs (by rw [ec]; exact ⟨by have := n60 h63; omega, by omega⟩) (Or.inl (by omega)) ht.1
                    rw [ec] at nw
                    exact ih (k + 1) _ _ _ (by omega) (by omega) (by omega) nw
                  · refine wp_iload (t := 51) rfl rfl ?_
                    refine wp_iload (t := 52) rfl rfl ?_
                    refine wp_icmp_ge (t := 53) (tgt := 110) rfl (by decide) (by first | assumption | exact hI3 _ _ | exact hI2 _ _ | exact hI1 _ _ | exact hI0 _ _ | exact zin_and _ _ | (unfold zin; omega) | (unfold zin at *; omega)) (by first | assumption | exact hI3 _ _ | exact hI2 _ _ | exact hI1 _ _ | exact hI0 _ _ | exact zin_and _ _ | (unfold zin; omega) | (unfold zin at *; omega)) (fun h102 => ?_) (fun h102 => ?_)
                    · refine wp_iload (t := 56) rfl rfl ?_
                      refine wp_istore (t := 57) rfl (by decide) rfl ?_
                      refine wp_iinc (t := 58) rfl rfl (by decide) rfl ?_
                      refine wp_goto (t := 59) (tgt := 7) rfl (by decide) ?_
                      exact ih (k + 1) _ _ _ (by omega) (by omega) (by omega) (ovI_keep hs (Or.inr ⟨by omega, by omega⟩))
                    · refine wp_iload (t := 54) rfl rfl ?_
                      refine wp_goto (t := 55) (tgt := 112) rfl (by decide) ?_
                      refine wp_istore (t := 57) rfl (by decide) rfl ?_
                      refine wp_iinc (t := 58) rfl rfl (by decide) rfl ?_
                      refine wp_goto (t := 59) (tgt := 7) rfl (by decide) ?_
                      have nw := ovI_new hs (by rw [ec]; exact ⟨by have := n60 h63; omega, by omega⟩) (Or.inr (by rw [ec]; omega)) ht.1
                      rw [ec] at nw
                      exact ih (k + 1) _ _ _ (by omega) (by omega) (by omega) nw
          · refine wp_aload_n (t := 16) rfl rfl ?_
            refine wp_getR (t := 17) (ji := 10) rfl fX10_28 rfl rfl (by omega) (by first | rfl | assumption) (by first | exact hW _ _ _ (by omega) rfl | assumption) ?_
            refine wp_bipush (t := 18) rfl (by decide) ?_
            refine wp_iload (t := 19) rfl rfl ?_
            refine wp_iadd (t := 20) rfl ?_
            refine wp_iaload (t := 21) rfl (by omega) (by first | rfl | assumption) (by omega) (by omega) (by omega) ?_
            refine wp_goto (t := 22) (tgt := 49) rfl (by decide) ?_
            have ec : ovC (mS I wo) t k = I 122 (12 + k) := by unfold ovC; rw [if_neg (by omega), if_pos (show 0 < sW (mS I wo) k from n28 (by omega))]; rfl
            refine wp_istore (t := 24) rfl (by decide) rfl ?_
            refine wp_iload (t := 25) rfl rfl ?_
            refine wp_i2l (t := 26) rfl (by first | assumption | exact hI1 _ _ | exact hI0 _ _ | exact zin_and _ _ | (unfold zin; omega) | (unfold zin at *; omega)) ?_
            refine wp_iload_n (t := 27) rfl rfl ?_
            refine wp_i2l (t := 28) rfl (by first | assumption | exact hI1 _ _ | exact hI0 _ _ | exact zin_and _ _ | (unfold zin; omega) | (unfold zin at *; omega)) ?_
            refine wp_iload_n (t := 29) rfl rfl ?_
            refine wp_iconst (t := 30) rfl ?_
            refine wp_isub (t := 31) rfl ?_
            refine wp_i2l (t := 32) rfl (by first | assumption | exact hI1 _ _ | exact hI0 _ _ | exact zin_and _ _ | (unfold zin; omega) | (unfold zin at *; omega)) ?_
            refine wp_si (c_X10_in (d := d + 1) (zin_long (by first | exact hI0 _ _ | (unfold zin; omega))) (by unfold zinL; omega) (by unfold zinL; omega)) (t := 33) rfl kX10_124 rfl rfl (Nat.le_of_ble_eq_true rfl) ⟨Nat.le_refl _, Nat.le_refl _⟩ (fun r60 I60 R60 c60 => ?_)
            refine wp_canon (fun hI2 => ?_)
            obtain ⟨e60, zi60, zr60⟩ := c60
            have zi60 := zi60.symm
            subst zi60
            have zr60 := zr60.symm
            subst zr60
            have b60 : 0 ≤ r60 ∧ r60 ≤ 1 := by rw [e60]; split <;> omega
            have n60 : ¬ r60 = 0 → t ≤ I 122 (12 + k) ∧ I 122 (12 + k) ≤ en - 1 := fun h => by (rw [e60] at h; by_cases q : t ≤ I 122 (12 + k) ∧ I 122 (12 + k) ≤ en - 1; exact q; rw [if_neg q] at h; exact absurd rfl h)
            have m60 : r60 = 0 → ¬ (t ≤ I 122 (12 + k) ∧ I 122 (12 + k) ≤ en - 1) := fun h q => by (rw [e60, if_pos q] at h; exact absurd h (by decide))
            refine wp_if_eq (t := 34) (tgt := 85) rfl (by decide) (by first | assumption | exact hI2 _ _ | exact hI1 _ _ | exact hI0 _ _ | exact zin_and _ _ | (unfold zin; omega) | (unfold zin at *; omega)) (fun h63 => ?_) (fun h63 => ?_)
            · refine wp_iconst (t := 45) rfl ?_
              refine wp_istore (t := 46) rfl (by decide) rfl ?_
              refine wp_iload (t := 47) rfl rfl ?_
              refine wp_if_eq (t := 48) (tgt := 110) rfl (by decide) (by first | assumption | exact hI2 _ _ | exact hI1 _ _ | exact hI0 _ _ | exact zin_and _ _ | (unfold zin; omega) | (unfold zin at *; omega)) (fun h90 => ?_) (fun h90 => ?_)
              · refine wp_iload (t := 56) rfl rfl ?_
                refine wp_istore (t := 57) rfl (by decide) rfl ?_
                refine wp_iinc (t := 58) rfl rfl (by decide) rfl ?_
                refine wp_goto (t := 59) (tgt := 7) rfl (by decide) ?_
                refine ih (k + 1) _ _ _ (by omega) (by omega) (by omega) (ovI_keep hs (Or.inl (fun g => ?_)))
                rw [ec] at g
                have := g.1
                exact m60 (by omega) ⟨by omega, by omega⟩
              · exact absurd h90 (by omega)
            · refine wp_aload_n (t := 35) rfl rfl ?_
              refine wp_iload (t := 36) rfl rfl ?_
              refine wp_iload_n (t := 37) rfl rfl ?_
              refine wp_vi (ci := 10) (c_X10_runsIn (wo := wo) (d := d) hW hn hch hpl htk (by unfold zin; omega) (by first | exact hI0 _ _ | (unfold zin; omega))) (t := 38) rfl kX10_231 rfl rfl (by omega) (by first | rfl | assumption) ⟨_, _, rfl⟩ (Nat.le_of_ble_eq_true rfl) ⟨Nat.le_refl _, Nat.le_refl _⟩ (fun r70 I70 R70 c70 => ?_)
              refine wp_canon (fun hI3 => ?_)
              obtain ⟨e70, zi70, zr70⟩ := c70
              have zi70 := zi70.symm
              subst zi70
              have zr70 := zr70.symm
              subst zr70
              have hsu70 : 0 ≤ r70 ∧ r70 ≤ 1600 := by rw [e70]; exact hsu _
              refine wp_iload (t := 39) rfl rfl ?_
              refine wp_iadd (t := 40) rfl ?_
              refine wp_iload (t := 41) rfl rfl ?_
              refine wp_icmp_le (t := 42) (tgt := 85) rfl (by decide) (by first | assumption | exact hI3 _ _ | exact hI2 _ _ | exact hI1 _ _ | exact hI0 _ _ | exact zin_and _ _ | (unfold zin; omega) | (unfold zin at *; omega)) (by first | assumption | exact hI3 _ _ | exact hI2 _ _ | exact hI1 _ _ | exact hI0 _ _ | exact zin_and _ _ | (unfold zin; omega) | (unfold zin at *; omega)) (fun h78 => ?_) (fun h78 => ?_)
              · refine wp_iconst (t := 45) rfl ?_
                refine wp_istore (t := 46) rfl (by decide) rfl ?_
                refine wp_iload (t := 47) rfl rfl ?_
                refine wp_if_eq (t := 48) (tgt := 110) rfl (by decide) (by first | assumption | exact hI3 _ _ | exact hI2 _ _ | exact hI1 _ _ | exact hI0 _ _ | exact zin_and _ _ | (unfold zin; omega) | (unfold zin at *; omega)) (fun h90 => ?_) (fun h90 => ?_)
                · refine wp_iload (t := 56) rfl rfl ?_
                  refine wp_istore (t := 57) rfl (by decide) rfl ?_
                  refine wp_iinc (t := 58) rfl rfl (by decide) rfl ?_
                  refine wp_goto (t := 59) (tgt := 7) rfl (by decide) ?_
                  refine ih (k + 1) _ _ _ (by omega) (by omega) (by omega) (ovI_keep hs (Or.inl (fun g => ?_)))
                  rw [ec] at g
                  have := g.2
                  omega
                · exact absurd h90 (by omega)
              · refine wp_iconst (t := 43) rfl ?_
                refine wp_goto (t := 44) (tgt := 86) rfl (by decide) ?_
                refine wp_istore (t := 46) rfl (by decide) rfl ?_
                refine wp_iload (t := 47) rfl rfl ?_
                refine wp_if_eq (t := 48) (tgt := 110) rfl (by decide) (by first | assumption | exact hI3 _ _ | exact hI2 _ _ | exact hI1 _ _ | exact hI0 _ _ | exact zin_and _ _ | (unfold zin; omega) | (unfold zin at *; omega)) (fun h90 => ?_) (fun h90 => ?_)
                · exact absurd h90 (by omega)
                · refine wp_iload (t := 49) rfl rfl ?_
                  refine wp_if_lt (t := 50) (tgt := 105) rfl (by decide) (by first | assumption | exact hI3 _ _ | exact hI2 _ _ | exact hI1 _ _ | exact hI0 _ _ | exact zin_and _ _ | (unfold zin; omega) | (unfold zin at *; omega)) (fun h95 => ?_) (fun h95 => ?_)
                  · refine wp_iload (t := 54) rfl rfl ?_
                    refine wp_goto (t := 55) (tgt := 112) rfl (by decide) ?_
                    refine wp_istore (t := 57) rfl (by decide) rfl ?_
                    refine wp_iinc (t := 58) rfl rfl (by decide) rfl ?_
                    refine wp_goto (t := 59) (tgt := 7) rfl (by decide) ?_
                    have nw := ovI_new hs (by rw [ec]; exact ⟨by have := n60 h63; omega, by omega⟩) (Or.inl (by omega)) ht.1
                    rw [ec] at nw
                    exact ih (k + 1) _ _ _ (by omega) (by omega) (by omega) nw
                  · refine wp_iload (t := 51) rfl rfl ?_
                    refine wp_iload (t := 52) rfl rfl ?_
                    refine wp_icmp_ge (t := 53) (tgt := 110) rfl (by decide) (by first | assumption | exact hI3 _ _ | exact hI2 _ _ | exact hI1 _ _ | exact hI0 _ _ | exact zin_and _ _ | (unfold zin; omega) | (unfold zin at *; omega)) (by first | assumption | exact hI3 _ _ | exact hI2 _ _ | exact hI1 _ _ | exact hI0 _ _ | exact zin_and _ _ | (unfold zin; omega) | (unfold zin at *; omega)) (fun h102 => ?_) (fun h102 => ?_)
                    · refine wp_iload (t := 56) rfl rfl ?_
                      refine wp_istore (t := 57) rfl (by decide) rfl ?_
                      refine wp_iinc (t := 58) rfl rfl (by decide) rfl ?_
                      refine wp_goto (t := 59) (tgt := 7) rfl (by decide) ?_
                      exact ih (k + 1) _ _ _ (by omega) (by omega) (by omega) (ovI_keep hs (Or.inr ⟨by omega, by omega⟩))
                    · refine wp_iload (t := 54) rfl rfl ?_
                      refine wp_goto (t := 55) (tgt := 112) rfl (by decide) ?_
                      refine wp_istore (t := 57) rfl (by decide) rfl ?_
                      refine wp_iinc (t := 58) rfl rfl (by decide) rfl ?_
                      refine wp_goto (t := 59) (tgt := 7) rfl (by decide) ?_
                      have nw := ovI_new hs (by rw [ec]; exact ⟨by have := n60 h63; omega, by omega⟩) (Or.inr (by rw [ec]; omega)) ht.1
                      rw [ec] at nw
                      exact ih (k + 1) _ _ _ (by omega) (by omega) (by omega) nw
        · refine wp_iload_n (t := 10) rfl rfl ?_
          refine wp_goto (t := 11) (tgt := 49) rfl (by decide) ?_
          have ec : ovC (mS I wo) t k = t := if_pos (by omega)
          refine wp_istore (t := 24) rfl (by decide) rfl ?_
          refine wp_iload (t := 25) rfl rfl ?_
          refine wp_i2l (t := 26) rfl (by first | assumption | exact hI0 _ _ | exact zin_and _ _ | (unfold zin; omega) | (unfold zin at *; omega)) ?_
          refine wp_iload_n (t := 27) rfl rfl ?_
          refine wp_i2l (t := 28) rfl (by first | assumption | exact hI0 _ _ | exact zin_and _ _ | (unfold zin; omega) | (unfold zin at *; omega)) ?_
          refine wp_iload_n (t := 29) rfl rfl ?_
          refine wp_iconst (t := 30) rfl ?_
          refine wp_isub (t := 31) rfl ?_
          refine wp_i2l (t := 32) rfl (by first | assumption | exact hI0 _ _ | exact zin_and _ _ | (unfold zin; omega) | (unfold zin at *; omega)) ?_
          refine wp_si (c_X10_in (d := d + 1) (zin_long (by first | exact hI0 _ _ | (unfold zin; omega))) (by unfold zinL; omega) (by unfold zinL; omega)) (t := 33) rfl kX10_124 rfl rfl (Nat.le_of_ble_eq_true rfl) ⟨Nat.le_refl _, Nat.le_refl _⟩ (fun r60 I60 R60 c60 => ?_)
          refine wp_canon (fun hI1 => ?_)
          obtain ⟨e60, zi60, zr60⟩ := c60
          have zi60 := zi60.symm
          subst zi60
          have zr60 := zr60.symm
          subst zr60
          have b60 : 0 ≤ r60 ∧ r60 ≤ 1 := by rw [e60]; split <;> omega
          have n60 : ¬ r60 = 0 → t ≤ t ∧ t ≤ en - 1 := fun h => by (rw [e60] at h; by_cases q : t ≤ t ∧ t ≤ en - 1; exact q; rw [if_neg q] at h; exact absurd rfl h)
          have m60 : r60 = 0 → ¬ (t ≤ t ∧ t ≤ en - 1) := fun h q => by (rw [e60, if_pos q] at h; exact absurd h (by decide))
          refine wp_if_eq (t := 34) (tgt := 85) rfl (by decide) (by first | assumption | exact hI1 _ _ | exact hI0 _ _ | exact zin_and _ _ | (unfold zin; omega) | (unfold zin at *; omega)) (fun h63 => ?_) (fun h63 => ?_)
          · refine wp_iconst (t := 45) rfl ?_
            refine wp_istore (t := 46) rfl (by decide) rfl ?_
            refine wp_iload (t := 47) rfl rfl ?_
            refine wp_if_eq (t := 48) (tgt := 110) rfl (by decide) (by first | assumption | exact hI1 _ _ | exact hI0 _ _ | exact zin_and _ _ | (unfold zin; omega) | (unfold zin at *; omega)) (fun h90 => ?_) (fun h90 => ?_)
            · refine wp_iload (t := 56) rfl rfl ?_
              refine wp_istore (t := 57) rfl (by decide) rfl ?_
              refine wp_iinc (t := 58) rfl rfl (by decide) rfl ?_
              refine wp_goto (t := 59) (tgt := 7) rfl (by decide) ?_
              refine ih (k + 1) _ _ _ (by omega) (by omega) (by omega) (ovI_keep hs (Or.inl (fun g => ?_)))
              rw [ec] at g
              have := g.1
              exact m60 (by omega) ⟨by omega, by omega⟩
            · exact absurd h90 (by omega)
          · refine wp_aload_n (t := 35) rfl rfl ?_
            refine wp_iload (t := 36) rfl rfl ?_
            refine wp_iload_n (t := 37) rfl rfl ?_
            refine wp_vi (ci := 10) (c_X10_runsIn (wo := wo) (d := d) hW hn hch hpl htk (by unfold zin; omega) (by first | exact hI0 _ _ | (unfold zin; omega))) (t := 38) rfl kX10_231 rfl rfl (by omega) (by first | rfl | assumption) ⟨_, _, rfl⟩ (Nat.le_of_ble_eq_true rfl) ⟨Nat.le_refl _, Nat.le_refl _⟩ (fun r70 I70 R70 c70 => ?_)
            refine wp_canon (fun hI2 => ?_)
            obtain ⟨e70, zi70, zr70⟩ := c70
            have zi70 := zi70.symm
            subst zi70
            have zr70 := zr70.symm
            subst zr70
            have hsu70 : 0 ≤ r70 ∧ r70 ≤ 1600 := by rw [e70]; exact hsu _
            refine wp_iload (t := 39) rfl rfl ?_
            refine wp_iadd (t := 40) rfl ?_
            refine wp_iload (t := 41) rfl rfl ?_
            refine wp_icmp_le (t := 42) (tgt := 85) rfl (by decide) (by first | assumption | exact hI2 _ _ | exact hI1 _ _ | exact hI0 _ _ | exact zin_and _ _ | (unfold zin; omega) | (unfold zin at *; omega)) (by first | assumption | exact hI2 _ _ | exact hI1 _ _ | exact hI0 _ _ | exact zin_and _ _ | (unfold zin; omega) | (unfold zin at *; omega)) (fun h78 => ?_) (fun h78 => ?_)
            · refine wp_iconst (t := 45) rfl ?_
              refine wp_istore (t := 46) rfl (by decide) rfl ?_
              refine wp_iload (t := 47) rfl rfl ?_
              refine wp_if_eq (t := 48) (tgt := 110) rfl (by decide) (by first | assumption | exact hI2 _ _ | exact hI1 _ _ | exact hI0 _ _ | exact zin_and _ _ | (unfold zin; omega) | (unfold zin at *; omega)) (fun h90 => ?_) (fun h90 => ?_)
              · refine wp_iload (t := 56) rfl rfl ?_
                refine wp_istore (t := 57) rfl (by decide) rfl ?_
                refine wp_iinc (t := 58) rfl rfl (by decide) rfl ?_
                refine wp_goto (t := 59) (tgt := 7) rfl (by decide) ?_
                refine ih (k + 1) _ _ _ (by omega) (by omega) (by omega) (ovI_keep hs (Or.inl (fun g => ?_)))
                rw [ec] at g
                have := g.2
                omega
              · exact absurd h90 (by omega)
            · refine wp_iconst (t := 43) rfl ?_
              refine wp_goto (t := 44) (tgt := 86) rfl (by decide) ?_
              refine wp_istore (t := 46) rfl (by decide) rfl ?_
              refine wp_iload (t := 47) rfl rfl ?_
              refine wp_if_eq (t := 48) (tgt := 110) rfl (by decide) (by first | assumption | exact hI2 _ _ | exact hI1 _ _ | exact hI0 _ _ | exact zin_and _ _ | (unfold zin; omega) | (unfold zin at *; omega)) (fun h90 => ?_) (fun h90 => ?_)
              · exact absurd h90 (by omega)
              · refine wp_iload (t := 49) rfl rfl ?_
                refine wp_if_lt (t := 50) (tgt := 105) rfl (by decide) (by first | assumption | exact hI2 _ _ | exact hI1 _ _ | exact hI0 _ _ | exact zin_and _ _ | (unfold zin; omega) | (unfold zin at *; omega)) (fun h95 => ?_) (fun h95 => ?_)
                · refine wp_iload (t := 54) rfl rfl ?_
                  refine wp_goto (t := 55) (tgt := 112) rfl (by decide) ?_
                  refine wp_istore (t := 57) rfl (by decide) rfl ?_
                  refine wp_iinc (t := 58) rfl rfl (by decide) rfl ?_
                  refine wp_goto (t := 59) (tgt := 7) rfl (by decide) ?_
                  have nw := ovI_new hs (by rw [ec]; exact ⟨by have := n60 h63; omega, by omega⟩) (Or.inl (by omega)) ht.1
                  rw [ec] at nw
                  exact ih (k + 1) _ _ _ (by omega) (by omega) (by omega) nw
                · refine wp_iload (t := 51) rfl rfl ?_
                  refine wp_iload (t := 52) rfl rfl ?_
                  refine wp_icmp_ge (t := 53) (tgt := 110) rfl (by decide) (by first | assumption | exact hI2 _ _ | exact hI1 _ _ | exact hI0 _ _ | exact zin_and _ _ | (unfold zin; omega) | (unfold zin at *; omega)) (by first | assumption | exact hI2 _ _ | exact hI1 _ _ | exact hI0 _ _ | exact zin_and _ _ | (unfold zin; omega) | (unfold zin at *; omega)) (fun h102 => ?_) (fun h102 => ?_)
                  · refine wp_iload (t := 56) rfl rfl ?_
                    refine wp_istore (t := 57) rfl (by decide) rfl ?_
                    refine wp_iinc (t := 58) rfl rfl (by decide) rfl ?_
                    refine wp_goto (t := 59) (tgt := 7) rfl (by decide) ?_
                    exact ih (k + 1) _ _ _ (by omega) (by omega) (by omega) (ovI_keep hs (Or.inr ⟨by omega, by omega⟩))
                  · refine wp_iload (t := 54) rfl rfl ?_
                    refine wp_goto (t := 55) (tgt := 112) rfl (by decide) ?_
                    refine wp_istore (t := 57) rfl (by decide) rfl ?_
                    refine wp_iinc (t := 58) rfl rfl (by decide) rfl ?_
                    refine wp_goto (t := 59) (tgt := 7) rfl (by decide) ?_
                    have nw := ovI_new hs (by rw [ec]; exact ⟨by have := n60 h63; omega, by omega⟩) (Or.inr (by rw [ec]; omega)) ht.1
                    rw [ec] at nw
                    exact ih (k + 1) _ _ _ (by omega) (by omega) (by omega) nw
  refine wp_ls (ls' := [some (zR 115), some (zI t), some (zI en), some (zI what), some (zI own), some (zI most), none, none, none, none]) rfl ?_
  refine wp_bipush (t := 0) rfl (by decide) ?_
  refine wp_istore (t := 1) rfl (by decide) rfl ?_
  refine wp_iconst (t := 2) rfl ?_
  refine wp_istore (t := 3) rfl (by decide) rfl ?_
  exact key _ (-1) (-4) none none (by omega) (by omega) rfl (Or.inl ⟨rfl, fun j g0 g1 => absurd g1 (by omega)⟩)
set_option maxHeartbeats 4000000 in
set_option maxRecDepth 100000 in
theorem c_X10_judge {G : zG} {d n : Nat} {I : zMem} {R : zRef} {wo c w t : Int} (hW : zWir n R) (hn : 143 ≤ n) (hch : mCh I) (hpl : mPl I) (htk : mTk I) (hc : 0 ≤ c ∧ c < I 115 2) (hw : 1 ≤ w ∧ w ≤ I 115 0) (ht : 0 ≤ t ∧ t ≤ 2000000) (hwo : zin wo) : MT G mX10_judge (d + 3) 0 0 [zR 115, zI c, zI w, zI t, zI wo] n I R (zP1 (fun r I' R' => r = sRea (mS I wo) c w t ∧ I' = zu I 115 38 (sTold (mS I wo) r c w t) ∧ R' = R)) := by
  refine MT.of (by decide +kernel) tX10_judge_ok (Nat.le_of_ble_eq_true rfl) (fun hI0 => ?_)
  have hco := hch.1
  have hli := hch.2.1
  have hcc := hch.2.2.2.2 c hc.1 hc.2
  have hpo := hch.2.2.1
  have hru := hch.2.2.2.1
  have hT := htk c w hc.1 hc.2 hw.1 hw.2
  obtain ⟨f1, f2, f3, f4, f5, f6⟩ := mS_facts (wo := wo) hch hpl htk
  have key3 : ∀ (x6 : Option zV), sNot (mS I wo) c t = -4 → sBeg (mS I wo) c (t + sT (mS I wo) c w) = -4 → WP G mX10_judge (d + 3) 0 0 0 0 134 [some (zR 115), some (zI c), some (zI w), some (zI t), some (zI wo), some (zI (t + I 137 (9 * c + w))), x6] [] n I R (zP1 (fun r I' R' => r = sRea (mS I wo) c w t ∧ I' = zu I 115 38 (sTold (mS I wo) r c w t) ∧ R' = R)) := by
    intro x6 g1 g2
    have sm := mSm_told I (sOver (mS I wo) 0 (I 115 0 - w) t (t + I 137 (9 * c + w)))
    have eR3 : ∀ J, J = zu I 115 38 (sOver (mS I wo) 0 (I 115 0 - w) t (t + I 137 (9 * c + w))) → mS J wo = mS I wo ∧ J 117 = I 117 ∧ J 115 1 = I 115 1 ∧ J 115 0 = I 115 0 := fun J hJ => by
      subst hJ
      exact ⟨mSm_S sm, zu_ne (by decide), zu_ni (by decide), zu_ni (by decide)⟩
    refine wp_aload_n (t := 70) rfl rfl ?_
    refine wp_iload_n (t := 71) rfl rfl ?_
    refine wp_iload (t := 72) rfl rfl ?_
    refine wp_iconst (t := 73) rfl ?_
    refine wp_iload_n (t := 74) rfl rfl ?_
    refine wp_aload_n (t := 75) rfl rfl ?_
    refine wp_getI (t := 76) (ji := 0) rfl fX10_91 rfl rfl (by omega) (by first | rfl | assumption) ?_
    refine wp_vi (ci := 10) (c_X10_isTooMuch (wo := wo) (d := d) hW hn hch hpl htk (Or.inl rfl) ht ⟨by omega, by omega⟩ ⟨by omega, by omega⟩ ⟨by omega, by omega⟩) (t := 77) rfl kX10_241 rfl rfl (by omega) (by first | rfl | assumption) ⟨_, _, rfl⟩ (Nat.le_of_ble_eq_true rfl) ⟨Nat.le_refl _, Nat.le_refl _⟩ (fun r144 I144 R144 c144 => ?_)
    refine wp_canon (fun hI1 => ?_)
    obtain ⟨e144, zi144, zr144⟩ := c144
    have zr144 := zr144.symm
    subst zr144
    obtain ⟨j1, j2, j3, j4⟩ := eR3 _ zi144
    have n144 : ¬ r144 = 0 → ¬ sOver (mS I wo) 0 (I 115 0 - w) t (t + I 137 (9 * c + w)) = -4 := fun h q => by (rw [e144, if_neg (fun z => z q)] at h; exact absurd rfl h)
    have m144 : r144 = 0 → sOver (mS I wo) 0 (I 115 0 - w) t (t + I 137 (9 * c + w)) = -4 := fun h => Classical.byContradiction (fun q => by rw [e144, if_pos q] at h; exact absurd h (by decide))
    have b144 : 0 ≤ r144 ∧ r144 ≤ 1 := by rw [e144]; split <;> omega
    refine wp_if_eq (t := 78) (tgt := 154) rfl (by decide) (by first | assumption | exact hI1 _ _ | exact hI0 _ _ | exact zin_and _ _ | (unfold zin; omega) | (unfold zin at *; omega)) (fun h147 => ?_) (fun h147 => ?_)
    · refine wp_aload_n (t := 81) rfl rfl ?_
      refine wp_iload_n (t := 82) rfl rfl ?_
      refine wp_iload (t := 83) rfl rfl ?_
      refine wp_iconst (t := 84) rfl ?_
      refine wp_aload_n (t := 85) rfl rfl ?_
      refine wp_getR (t := 86) (ji := 5) rfl fX10_13 rfl rfl (by omega) (by first | rfl | assumption) (by first | exact hW _ _ _ (by omega) rfl | assumption) ?_
      refine wp_iload_n (t := 87) rfl rfl ?_
      refine wp_iaload (t := 88) rfl (by omega) (by first | rfl | assumption) (by omega) (by omega) (by omega) ?_
      rw [j2]
      refine wp_aload_n (t := 89) rfl rfl ?_
      refine wp_getI (t := 90) (ji := 1) rfl fX10_95 rfl rfl (by omega) (by first | rfl | assumption) ?_
      refine wp_vi (ci := 10) (c_X10_isTooMuch (wo := wo) (d := d) hW hn (by rw [zi144]; exact mSm_Ch sm hch) (by rw [zi144]; exact mSm_Pl sm hpl) (by rw [zi144]; exact mSm_Tk sm htk) (Or.inr rfl) ht ⟨by omega, by omega⟩ ⟨by omega, by omega⟩ ⟨by omega, by omega⟩) (t := 91) rfl kX10_241 rfl rfl (by omega) (by first | rfl | assumption) ⟨_, _, rfl⟩ (Nat.le_of_ble_eq_true rfl) ⟨Nat.le_refl _, Nat.le_refl _⟩ (fun r169 I169 R169 c169 => ?_)
      refine wp_canon (fun hI2 => ?_)
      obtain ⟨e169, zi169, zr169⟩ := c169
      have zr169 := zr169.symm
      subst zr169
      rw [j1, j3] at e169 zi169
      have n169 : ¬ r169 = 0 → ¬ sOver (mS I wo) 1 (I 115 1 - I 117 c) t (t + I 137 (9 * c + w)) = -4 := fun h q => by (rw [e169, if_neg (fun z => z q)] at h; exact absurd rfl h)
      have m169 : r169 = 0 → sOver (mS I wo) 1 (I 115 1 - I 117 c) t (t + I 137 (9 * c + w)) = -4 := fun h => Classical.byContradiction (fun q => by rw [e169, if_pos q] at h; exact absurd h (by decide))
      have b169 : 0 ≤ r169 ∧ r169 ≤ 1 := by rw [e169]; split <;> omega
      have q3 := m144 h147
      have zu2 : zu I144 115 38 (sOver (mS I wo) 1 (I 115 1 - I 117 c) t (t + I 137 (9 * c + w))) = zu I 115 38 (sOver (mS I wo) 1 (I 115 1 - I 117 c) t (t + I 137 (9 * c + w))) := by
        rw [zi144]
        funext b j
        unfold zu
        by_cases h : b = 115 ∧ j = 38
        · rw [if_pos h, if_pos h]
        · rw [if_neg h, if_neg h, if_neg h]
      rw [zu2] at zi169
      refine wp_if_eq (t := 92) (tgt := 179) rfl (by decide) (by first | assumption | exact hI2 _ _ | exact hI1 _ _ | exact hI0 _ _ | exact zin_and _ _ | (unfold zin; omega) | (unfold zin at *; omega)) (fun h172 => ?_) (fun h172 => ?_)
      · refine wp_iconst (t := 95) rfl ?_
        refine wp_ireturn (t := 96) rfl rfl ?_
        have e3 : sRea (mS I wo) c w t = 0 := by
          unfold sRea
          rw [if_neg (by omega), if_neg (by omega), if_neg (show ¬ ¬ sOver (mS I wo) 0 (sL (mS I wo) - w) t (t + sT (mS I wo) c w) = -4 from fun z => z q3), if_neg (show ¬ ¬ sOver (mS I wo) 1 (sP (mS I wo) - sD (mS I wo) c) t (t + sT (mS I wo) c w) = -4 from fun z => z (m169 h172))]
        refine ⟨_, rfl, e3.symm, ?_, rfl⟩
        rw [zi169, m169 h172]
        rfl
      · refine wp_iconst (t := 93) rfl ?_
        refine wp_goto (t := 94) (tgt := 180) rfl (by decide) ?_
        refine wp_ireturn (t := 96) rfl rfl ?_
        have e3 : sRea (mS I wo) c w t = 4 := by
          unfold sRea
          rw [if_neg (by omega), if_neg (by omega), if_neg (show ¬ ¬ sOver (mS I wo) 0 (sL (mS I wo) - w) t (t + sT (mS I wo) c w) = -4 from fun z => z q3), if_pos (show ¬ sOver (mS I wo) 1 (sP (mS I wo) - sD (mS I wo) c) t (t + sT (mS I wo) c w) = -4 from n169 h172)]
        refine ⟨_, rfl, e3.symm, ?_, rfl⟩
        rw [zi169]
        rfl
    · refine wp_iconst (t := 79) rfl ?_
      refine wp_goto (t := 80) (tgt := 180) rfl (by decide) ?_
      refine wp_ireturn (t := 96) rfl rfl ?_
      have q3 := n144 h147
      have e3 : sRea (mS I wo) c w t = 3 := by
        unfold sRea
        rw [if_neg (by omega), if_neg (by omega), if_pos (show ¬ sOver (mS I wo) 0 (sL (mS I wo) - w) t (t + sT (mS I wo) c w) = -4 from q3)]
      refine ⟨_, rfl, e3.symm, ?_, rfl⟩
      rw [zi144]
      rfl
  have key2 : ∀ (m : Nat) (a : Int), 0 ≤ a → a ≤ I 115 2 → (I 115 2 - a).toNat = m → sNot (mS I wo) c t = -4 → (∀ i : Int, 0 ≤ i → i < a → (mA I wo c i && (decide (0 < I 122 (6 + i)) && decide (I 122 (12 + i) < t + I 137 (9 * c + w)))) = false) → WP G mX10_judge (d + 3) 0 0 0 0 75 [some (zR 115), some (zI c), some (zI w), some (zI t), some (zI wo), some (zI (t + I 137 (9 * c + w))), some (zI a)] [] n I R (zP1 (fun r I' R' => r = sRea (mS I wo) c w t ∧ I' = zu I 115 38 (sTold (mS I wo) r c w t) ∧ R' = R)) := by
    intro m
    induction m with
    | zero =>
      intro a h0 h1 hm hnd hs
      refine wp_iload (t := 41) rfl rfl ?_
      refine wp_aload_n (t := 42) rfl rfl ?_
      refine wp_getI (t := 43) (ji := 2) rfl fX10_115 rfl rfl (by omega) (by first | rfl | assumption) ?_
      refine wp_icmp_ge (t := 44) (tgt := 134) rfl (by decide) (by first | assumption | exact hI0 _ _ | exact zin_and _ _ | (unfold zin; omega) | (unfold zin at *; omega)) (by first | assumption | exact hI0 _ _ | exact zin_and _ _ | (unfold zin; omega) | (unfold zin at *; omega)) (fun h81 => ?_) (fun h81 => ?_)
      · exact key3 _ hnd (zfirst_none (fun i g0 g1 => hs i g0 (by have : i < ((I 115 2).toNat : Int) := g1; omega)))
      · exact absurd h81 (by omega)
    | succ m ih =>
      intro a h0 h1 hm hnd hs
      refine wp_iload (t := 41) rfl rfl ?_
      refine wp_aload_n (t := 42) rfl rfl ?_
      refine wp_getI (t := 43) (ji := 2) rfl fX10_115 rfl rfl (by omega) (by first | rfl | assumption) ?_
      refine wp_icmp_ge (t := 44) (tgt := 134) rfl (by decide) (by first | assumption | exact hI0 _ _ | exact zin_and _ _ | (unfold zin; omega) | (unfold zin at *; omega)) (by first | assumption | exact hI0 _ _ | exact zin_and _ _ | (unfold zin; omega) | (unfold zin at *; omega)) (fun h81 => ?_) (fun h81 => ?_)
      · exact absurd h81 (by omega)
      · refine wp_aload_n (t := 45) rfl rfl ?_
        refine wp_iload_n (t := 46) rfl rfl ?_
        refine wp_iload (t := 47) rfl rfl ?_
        refine wp_iload (t := 48) rfl rfl ?_
        refine wp_vi (ci := 10) (c_X10_isAhead (d := d + 2) hW hn hru (by unfold zin; omega) (by unfold zin; omega) hwo) (t := 49) rfl kX10_237 rfl rfl (by omega) (by first | rfl | assumption) ⟨_, _, rfl⟩ (Nat.le_of_ble_eq_true rfl) ⟨Nat.le_refl _, Nat.le_refl _⟩ (fun r90 I90 R90 c90 => ?_)
        refine wp_canon (fun hI1 => ?_)
        obtain ⟨e90, zi90, zr90⟩ := c90
        have zi90 := zi90.symm
        subst zi90
        have zr90 := zr90.symm
        subst zr90
        have b90 : 0 ≤ r90 ∧ r90 ≤ 1 := by rw [e90]; split <;> omega
        have n90 : ¬ r90 = 0 → mA I wo c a = true := fun h => by (rw [e90] at h; by_cases q : mA I wo c a = true; exact q; rw [if_neg q] at h; exact absurd rfl h)
        have m90 : r90 = 0 → ¬ (mA I wo c a = true) := fun h q => by (rw [e90, if_pos q] at h; exact absurd h (by decide))
        refine wp_if_eq (t := 50) (tgt := 128) rfl (by decide) (by first | assumption | exact hI1 _ _ | exact hI0 _ _ | exact zin_and _ _ | (unfold zin; omega) | (unfold zin at *; omega)) (fun h93 => ?_) (fun h93 => ?_)
        · refine wp_iinc (t := 68) rfl rfl (by decide) rfl ?_
          refine wp_goto (t := 69) (tgt := 75) rfl (by decide) ?_
          refine ih (a + 1) (by omega) (by omega) (by omega) hnd (fun i g0 g1 => ?_)
          by_cases hia : i = a
          · subst hia
            first
              | (rw [show mA I wo c i = false by simpa using m90 h93, Bool.false_and])
              | (rw [decide_eq_false (m99 h102)]
                 simp)
              | (rw [decide_eq_false (show ¬ I 122 (12 + i) < t + I 137 (9 * c + w) by omega)]
                 simp)
          · exact hs i g0 (by omega)
        · refine wp_aload_n (t := 51) rfl rfl ?_
          refine wp_iload (t := 52) rfl rfl ?_
          refine wp_vi (ci := 10) (c_X10_isPut (d := d + 2) hW hn ⟨by omega, by omega⟩) (t := 53) rfl kX10_215 rfl rfl (by omega) (by first | rfl | assumption) ⟨_, _, rfl⟩ (Nat.le_of_ble_eq_true rfl) ⟨Nat.le_refl _, Nat.le_refl _⟩ (fun r99 I99 R99 c99 => ?_)
          refine wp_canon (fun hI2 => ?_)
          obtain ⟨e99, zi99, zr99⟩ := c99
          have zi99 := zi99.symm
          subst zi99
          have zr99 := zr99.symm
          subst zr99
          have b99 : 0 ≤ r99 ∧ r99 ≤ 1 := by rw [e99]; split <;> omega
          have n99 : ¬ r99 = 0 → 0 < I 122 (6 + a) := fun h => by (rw [e99] at h; by_cases q : 0 < I 122 (6 + a); exact q; rw [if_neg q] at h; exact absurd rfl h)
          have m99 : r99 = 0 → ¬ (0 < I 122 (6 + a)) := fun h q => by (rw [e99, if_pos q] at h; exact absurd h (by decide))
          refine wp_if_eq (t := 54) (tgt := 128) rfl (by decide) (by first | assumption | exact hI2 _ _ | exact hI1 _ _ | exact hI0 _ _ | exact zin_and _ _ | (unfold zin; omega) | (unfold zin at *; omega)) (fun h102 => ?_) (fun h102 => ?_)
          · refine wp_iinc (t := 68) rfl rfl (by decide) rfl ?_
            refine wp_goto (t := 69) (tgt := 75) rfl (by decide) ?_
            refine ih (a + 1) (by omega) (by omega) (by omega) hnd (fun i g0 g1 => ?_)
            by_cases hia : i = a
            · subst hia
              first
                | (rw [show mA I wo c i = false by simpa using m90 h93, Bool.false_and])
                | (rw [decide_eq_false (m99 h102)]
                   simp)
                | (rw [decide_eq_false (show ¬ I 122 (12 + i) < t + I 137 (9 * c + w) by omega)]
                   simp)
            · exact hs i g0 (by omega)
          · refine wp_aload_n (t := 55) rfl rfl ?_
            refine wp_getR (t := 56) (ji := 10) rfl fX10_28 rfl rfl (by omega) (by first | rfl | assumption) (by first | exact hW _ _ _ (by omega) rfl | assumption) ?_
            refine wp_bipush (t := 57) rfl (by decide) ?_
            refine wp_iload (t := 58) rfl rfl ?_
            refine wp_iadd (t := 59) rfl ?_
            refine wp_iaload (t := 60) rfl (by omega) (by first | rfl | assumption) (by omega) (by omega) (by omega) ?_
            refine wp_iload (t := 61) rfl rfl ?_
            refine wp_icmp_ge (t := 62) (tgt := 128) rfl (by decide) (by first | assumption | exact hI2 _ _ | exact hI1 _ _ | exact hI0 _ _ | exact zin_and _ _ | (unfold zin; omega) | (unfold zin at *; omega)) (by first | assumption | exact hI2 _ _ | exact hI1 _ _ | exact hI0 _ _ | exact zin_and _ _ | (unfold zin; omega) | (unfold zin at *; omega)) (fun h117 => ?_) (fun h117 => ?_)
            · refine wp_iinc (t := 68) rfl rfl (by decide) rfl ?_
              refine wp_goto (t := 69) (tgt := 75) rfl (by decide) ?_
              refine ih (a + 1) (by omega) (by omega) (by omega) hnd (fun i g0 g1 => ?_)
              by_cases hia : i = a
              · subst hia
                first
                  | (rw [show mA I wo c i = false by simpa using m90 h93, Bool.false_and])
                  | (rw [decide_eq_false (m99 h102)]
                     simp)
                  | (rw [decide_eq_false (show ¬ I 122 (12 + i) < t + I 137 (9 * c + w) by omega)]
                     simp)
              · exact hs i g0 (by omega)
            · refine wp_aload_n (t := 63) rfl rfl ?_
              refine wp_iload (t := 64) rfl rfl ?_
              refine wp_putI (t := 65) (ji := 38) rfl fX10_234 p10_38 rfl rfl (by omega) (by first | rfl | assumption) (by first | assumption | exact hI2 _ _ | exact hI1 _ _ | exact hI0 _ _ | exact zin_and _ _ | (unfold zin; omega) | (unfold zin at *; omega)) ?_
              refine wp_canon (fun hI3 => ?_)
              refine wp_iconst (t := 66) rfl ?_
              refine wp_ireturn (t := 67) rfl rfl ?_
              have q1 : sBeg (mS I wo) c (t + sT (mS I wo) c w) = a := zfirst_some h0 (show a < ((I 115 2).toNat : Int) by omega) (by show (mA I wo c a && (decide (0 < I 122 (6 + a)) && decide (I 122 (12 + a) < t + I 137 (9 * c + w)))) = true; rw [n90 h93, decide_eq_true (n99 h102), decide_eq_true (show I 122 (12 + a) < t + I 137 (9 * c + w) by omega)]; rfl) hs
              have e3 : sRea (mS I wo) c w t = 2 := by
                unfold sRea
                rw [if_neg (by omega), if_pos (by omega)]
              refine ⟨_, rfl, e3.symm, ?_, rfl⟩
              rw [← q1]
              rfl
  have key1 : ∀ (m : Nat) (a : Int), 0 ≤ a → a ≤ I 115 2 → (I 115 2 - a).toNat = m → (∀ i : Int, 0 ≤ i → i < a → (mA I wo i c && (decide (¬ 0 < I 122 (6 + i)) || decide (t < I 122 (12 + i) + I 137 (9 * i + I 122 (6 + i))))) = false) → WP G mX10_judge (d + 3) 0 0 0 0 18 [some (zR 115), some (zI c), some (zI w), some (zI t), some (zI wo), some (zI (t + I 137 (9 * c + w))), some (zI a)] [] n I R (zP1 (fun r I' R' => r = sRea (mS I wo) c w t ∧ I' = zu I 115 38 (sTold (mS I wo) r c w t) ∧ R' = R)) := by
    intro m
    induction m with
    | zero =>
      intro a h0 h1 hm hs
      refine wp_iload (t := 13) rfl rfl ?_
      refine wp_aload_n (t := 14) rfl rfl ?_
      refine wp_getI (t := 15) (ji := 2) rfl fX10_115 rfl rfl (by omega) (by first | rfl | assumption) ?_
      refine wp_icmp_ge (t := 16) (tgt := 72) rfl (by decide) (by first | assumption | exact hI0 _ _ | exact zin_and _ _ | (unfold zin; omega) | (unfold zin at *; omega)) (by first | assumption | exact hI0 _ _ | exact zin_and _ _ | (unfold zin; omega) | (unfold zin at *; omega)) (fun h24 => ?_) (fun h24 => ?_)
      · refine wp_iconst (t := 39) rfl ?_
        refine wp_istore (t := 40) rfl (by decide) rfl ?_
        exact key2 _ 0 (by omega) (by omega) rfl (zfirst_none (fun i g0 g1 => hs i g0 (by have : i < ((I 115 2).toNat : Int) := g1; omega))) (fun i g0 g1 => absurd g1 (by omega))
      · exact absurd h24 (by omega)
    | succ m ih =>
      intro a h0 h1 hm hs
      have hpa := hpl a h0 (by omega)
      refine wp_iload (t := 13) rfl rfl ?_
      refine wp_aload_n (t := 14) rfl rfl ?_
      refine wp_getI (t := 15) (ji := 2) rfl fX10_115 rfl rfl (by omega) (by first | rfl | assumption) ?_
      refine wp_icmp_ge (t := 16) (tgt := 72) rfl (by decide) (by first | assumption | exact hI0 _ _ | exact zin_and _ _ | (unfold zin; omega) | (unfold zin at *; omega)) (by first | assumption | exact hI0 _ _ | exact zin_and _ _ | (unfold zin; omega) | (unfold zin at *; omega)) (fun h24 => ?_) (fun h24 => ?_)
      · exact absurd h24 (by omega)
      · refine wp_aload_n (t := 17) rfl rfl ?_
        refine wp_iload (t := 18) rfl rfl ?_
        refine wp_iload_n (t := 19) rfl rfl ?_
        refine wp_iload (t := 20) rfl rfl ?_
        refine wp_vi (ci := 10) (c_X10_isAhead (d := d + 2) hW hn hru (by unfold zin; omega) (by unfold zin; omega) hwo) (t := 21) rfl kX10_237 rfl rfl (by omega) (by first | rfl | assumption) ⟨_, _, rfl⟩ (Nat.le_of_ble_eq_true rfl) ⟨Nat.le_refl _, Nat.le_refl _⟩ (fun r33 I33 R33 c33 => ?_)
        refine wp_canon (fun hI1 => ?_)
        obtain ⟨e33, zi33, zr33⟩ := c33
        have zi33 := zi33.symm
        subst zi33
        have zr33 := zr33.symm
        subst zr33
        have b33 : 0 ≤ r33 ∧ r33 ≤ 1 := by rw [e33]; split <;> omega
        have n33 : ¬ r33 = 0 → mA I wo a c = true := fun h => by (rw [e33] at h; by_cases q : mA I wo a c = true; exact q; rw [if_neg q] at h; exact absurd rfl h)
        have m33 : r33 = 0 → ¬ (mA I wo a c = true) := fun h q => by (rw [e33, if_pos q] at h; exact absurd h (by decide))
        refine wp_if_eq (t := 22) (tgt := 66) rfl (by decide) (by first | assumption | exact hI1 _ _ | exact hI0 _ _ | exact zin_and _ _ | (unfold zin; omega) | (unfold zin at *; omega)) (fun h36 => ?_) (fun h36 => ?_)
        · refine wp_iinc (t := 37) rfl rfl (by decide) rfl ?_
          refine wp_goto (t := 38) (tgt := 18) rfl (by decide) ?_
          refine ih (a + 1) (by omega) (by omega) (by omega) (fun i g0 g1 => ?_)
          by_cases hia : i = a
          · subst hia
            first
              | (rw [show mA I wo i c = false by simpa using m33 h36, Bool.false_and])
              | (rw [decide_eq_false (fun z => z (n42 h45)), decide_eq_false (show ¬ t < I 122 (12 + i) + I 137 (9 * i + I 122 (6 + i)) by omega)]
                 simp)
          · exact hs i g0 (by omega)
        · refine wp_aload_n (t := 23) rfl rfl ?_
          refine wp_iload (t := 24) rfl rfl ?_
          refine wp_vi (ci := 10) (c_X10_isPut (d := d + 2) hW hn ⟨by omega, by omega⟩) (t := 25) rfl kX10_215 rfl rfl (by omega) (by first | rfl | assumption) ⟨_, _, rfl⟩ (Nat.le_of_ble_eq_true rfl) ⟨Nat.le_refl _, Nat.le_refl _⟩ (fun r42 I42 R42 c42 => ?_)
          refine wp_canon (fun hI2 => ?_)
          obtain ⟨e42, zi42, zr42⟩ := c42
          have zi42 := zi42.symm
          subst zi42
          have zr42 := zr42.symm
          subst zr42
          have b42 : 0 ≤ r42 ∧ r42 ≤ 1 := by rw [e42]; split <;> omega
          have n42 : ¬ r42 = 0 → 0 < I 122 (6 + a) := fun h => by (rw [e42] at h; by_cases q : 0 < I 122 (6 + a); exact q; rw [if_neg q] at h; exact absurd rfl h)
          have m42 : r42 = 0 → ¬ (0 < I 122 (6 + a)) := fun h q => by (rw [e42, if_pos q] at h; exact absurd h (by decide))
          refine wp_if_eq (t := 26) (tgt := 58) rfl (by decide) (by first | assumption | exact hI2 _ _ | exact hI1 _ _ | exact hI0 _ _ | exact zin_and _ _ | (unfold zin; omega) | (unfold zin at *; omega)) (fun h45 => ?_) (fun h45 => ?_)
          · refine wp_aload_n (t := 32) rfl rfl ?_
            refine wp_iload (t := 33) rfl rfl ?_
            refine wp_putI (t := 34) (ji := 38) rfl fX10_234 p10_38 rfl rfl (by omega) (by first | rfl | assumption) (by first | assumption | exact hI2 _ _ | exact hI1 _ _ | exact hI0 _ _ | exact zin_and _ _ | (unfold zin; omega) | (unfold zin at *; omega)) ?_
            refine wp_canon (fun hI3 => ?_)
            refine wp_iconst (t := 35) rfl ?_
            refine wp_ireturn (t := 36) rfl rfl ?_
            have q1 : sNot (mS I wo) c t = a := zfirst_some h0 (show a < ((I 115 2).toNat : Int) by omega) (by
              show (mA I wo a c && (decide (¬ 0 < I 122 (6 + a)) || decide (t < I 122 (12 + a) + I 137 (9 * a + I 122 (6 + a))))) = true
              rw [n33 h36]
              first
                | (rw [decide_eq_true (m42 h45)]; rfl)
                | (rw [decide_eq_true (show t < I 122 (12 + a) + I 137 (9 * a + I 122 (6 + a)) by omega), Bool.or_true]; rfl)) hs
            have e3 : sRea (mS I wo) c w t = 1 := by
              unfold sRea
              rw [if_pos (by omega)]
            refine ⟨_, rfl, e3.symm, ?_, rfl⟩
            rw [← q1]
            rfl
          · refine wp_aload_n (t := 27) rfl rfl ?_
            refine wp_iload (t := 28) rfl rfl ?_
            refine wp_vi (ci := 10) (c_X10_endOf (d := d + 2) hW hn ⟨h0, by omega⟩ ⟨by omega, by omega⟩) (t := 29) rfl kX10_228 rfl rfl (by omega) (by first | rfl | assumption) ⟨_, _, rfl⟩ (Nat.le_of_ble_eq_true rfl) ⟨Nat.le_refl _, Nat.le_refl _⟩ (fun r51 I51 R51 c51 => ?_)
            refine wp_canon (fun hI3 => ?_)
            obtain ⟨e51, zi51, zr51⟩ := c51
            have zi51 := zi51.symm
            subst zi51
            have zr51 := zr51.symm
            subst zr51
            have tk51 := htk a (I 122 (6 + a)) h0 (by omega) (by have := n42 h45; omega) (by omega)
            refine wp_iload_n (t := 30) rfl rfl ?_
            refine wp_icmp_le (t := 31) (tgt := 66) rfl (by decide) (by first | assumption | exact hI3 _ _ | exact hI2 _ _ | exact hI1 _ _ | exact hI0 _ _ | exact zin_and _ _ | (unfold zin; omega) | (unfold zin at *; omega)) (by first | assumption | exact hI3 _ _ | exact hI2 _ _ | exact hI1 _ _ | exact hI0 _ _ | exact zin_and _ _ | (unfold zin; omega) | (unfold zin at *; omega)) (fun h55 => ?_) (fun h55 => ?_)
            · refine wp_iinc (t := 37) rfl rfl (by decide) rfl ?_
              refine wp_goto (t := 38) (tgt := 18) rfl (by decide) ?_
              refine ih (a + 1) (by omega) (by omega) (by omega) (fun i g0 g1 => ?_)
              by_cases hia : i = a
              · subst hia
                first
                  | (rw [show mA I wo i c = false by simpa using m33 h36, Bool.false_and])
                  | (rw [decide_eq_false (fun z => z (n42 h45)), decide_eq_false (show ¬ t < I 122 (12 + i) + I 137 (9 * i + I 122 (6 + i)) by omega)]
                     simp)
              · exact hs i g0 (by omega)
            · refine wp_aload_n (t := 32) rfl rfl ?_
              refine wp_iload (t := 33) rfl rfl ?_
              refine wp_putI (t := 34) (ji := 38) rfl fX10_234 p10_38 rfl rfl (by omega) (by first | rfl | assumption) (by first | assumption | exact hI3 _ _ | exact hI2 _ _ | exact hI1 _ _ | exact hI0 _ _ | exact zin_and _ _ | (unfold zin; omega) | (unfold zin at *; omega)) ?_
              refine wp_canon (fun hI4 => ?_)
              refine wp_iconst (t := 35) rfl ?_
              refine wp_ireturn (t := 36) rfl rfl ?_
              have q1 : sNot (mS I wo) c t = a := zfirst_some h0 (show a < ((I 115 2).toNat : Int) by omega) (by
                show (mA I wo a c && (decide (¬ 0 < I 122 (6 + a)) || decide (t < I 122 (12 + a) + I 137 (9 * a + I 122 (6 + a))))) = true
                rw [n33 h36]
                first
                  | (rw [decide_eq_true (m42 h45)]; rfl)
                  | (rw [decide_eq_true (show t < I 122 (12 + a) + I 137 (9 * a + I 122 (6 + a)) by omega), Bool.or_true]; rfl)) hs
              have e3 : sRea (mS I wo) c w t = 1 := by
                unfold sRea
                rw [if_pos (by omega)]
              refine ⟨_, rfl, e3.symm, ?_, rfl⟩
              rw [← q1]
              rfl
  refine wp_ls (ls' := [some (zR 115), some (zI c), some (zI w), some (zI t), some (zI wo), none, none]) rfl ?_
  refine wp_iload_n (t := 0) rfl rfl ?_
  refine wp_aload_n (t := 1) rfl rfl ?_
  refine wp_getR (t := 2) (ji := 36) rfl fX10_73 rfl rfl (by omega) (by first | rfl | assumption) (by first | exact hW _ _ _ (by omega) rfl | assumption) ?_
  refine wp_bipush (t := 3) rfl (by decide) ?_
  refine wp_iload_n (t := 4) rfl rfl ?_
  refine wp_imul (t := 5) rfl ?_
  refine wp_iload_n (t := 6) rfl rfl ?_
  refine wp_iadd (t := 7) rfl ?_
  refine wp_iaload (t := 8) rfl (by omega) (by first | rfl | assumption) (by omega) (by omega) (by omega) ?_
  refine wp_iadd (t := 9) rfl ?_
  refine wp_istore (t := 10) rfl (by decide) rfl ?_
  refine wp_iconst (t := 11) rfl ?_
  refine wp_istore (t := 12) rfl (by decide) rfl ?_
  exact key1 _ 0 (by omega) (by omega) rfl (fun i g0 g1 => absurd g1 (by omega))
