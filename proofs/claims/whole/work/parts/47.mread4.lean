/-! the reference reads an item, and all -/
set_option maxHeartbeats 4000000 in
set_option maxRecDepth 100000 in
theorem c_X10_takesItem {G : zG} {d n : Nat} {I : zMem} {R : zRef} {S : pS} {p : Int} (hW : zWir n R) (hn : 143 ≤ n) (hlen : 0 ≤ I 115 20 ∧ I 115 20 ≤ 200) (hp : 0 ≤ p ∧ p < I 115 20) (hat : I 115 21 = p) (hr : mRd I S) (hS : pGood S) : MT G mX10_takesItem (d + 3) 0 0 [zR 115] n I R (zP1 (fun r I' R' => (r = (if pIok (I 127) (I 115 20) S p then 1 else 0) ∧ (¬ r = 0 → mRd I' (pUp (I 127) (I 115 20) S p) ∧ I' 115 21 = pNx (I 127) (I 115 20) S p) ∧ mFr I I') ∧ R' = R)) := by
  refine MT.of (by decide +kernel) tX10_takesItem_ok (Nat.le_of_ble_eq_true rfl) (fun hI0 => ?_)
  have y1 : ∀ v, zu I 115 21 v 115 20 = I 115 20 := fun v => zu_ni (by decide)
  have y2 : ∀ v, zu I 115 21 v 127 = I 127 := fun v => zu_ne (by decide)
  have y3 : zu I 115 21 (p + 1) 115 21 = p + 1 := zu_eq
  have hr2 : mRd (zu I 115 21 (p + 1)) S := mRd_ext (fun b b1 b2 => zu_ne (by omega)) (fun j j0 j1 => zu_ni (by omega)) hr
  have hlen2 : 0 ≤ zu I 115 21 (p + 1) 115 20 ∧ zu I 115 21 (p + 1) 115 20 ≤ 200 := by rw [y1]; exact hlen
  have fr2 : ∀ K, mFr (zu I 115 21 (p + 1)) K → mFr I K := fun K h => mFr_trans (mFr_u (mFr_refl I) (by omega)) h
  generalize hT : I 127 = T at *
  generalize hL : I 115 20 = L at *
  refine wp_ls (ls' := [some (zR 115), none, none]) rfl ?_
  refine wp_aload_n (t := 0) rfl rfl ?_
  refine wp_getI (t := 1) (ji := 21) rfl fX10_137 rfl rfl (by omega) (by first | rfl | assumption) ?_
  rw [hat]
  refine wp_istore_n (t := 2) rfl (by decide) rfl ?_
  refine wp_aload_n (t := 3) rfl rfl ?_
  refine wp_vi (ci := 10) (c_X10_letter (d := d + 2) hW hn (by rw [hL]; exact hlen) (by omega)) (t := 4) rfl kX10_140 rfl rfl (by omega) (by first | rfl | assumption) ⟨_, _, rfl⟩ (Nat.le_of_ble_eq_true rfl) ⟨Nat.le_refl _, Nat.le_refl _⟩ (fun r6 I6 R6 c6 => ?_)
  refine wp_canon (fun hI1 => ?_)
  obtain ⟨⟨e6, b6⟩, zi6, zr6⟩ := c6
  have zi6 := zi6.symm
  subst zi6
  have zr6 := zr6.symm
  subst zr6
  have e6 : r6 = pLet T L p := by rw [e6, hat]; unfold mLet pLet; rw [hT, hL, if_pos hp.2, if_pos hp]
  refine wp_istore_n (t := 5) rfl (by decide) rfl ?_
  refine wp_aload_n (t := 6) rfl rfl ?_
  refine wp_dup (t := 7) rfl rfl ?_
  refine wp_getI (t := 8) (ji := 21) rfl fX10_137 rfl rfl (by omega) (by first | rfl | assumption) ?_
  rw [hat]
  refine wp_iconst (t := 9) rfl ?_
  refine wp_iadd (t := 10) rfl ?_
  refine wp_putI (t := 11) (ji := 21) rfl fX10_137 p10_21 rfl rfl (by omega) (by first | rfl | assumption) (by first | assumption | exact hI1 _ _ | exact hI0 _ _ | exact zin_and _ _ | (unfold zin; omega) | (unfold zin at *; omega)) ?_
  refine wp_canon (fun hI2 => ?_)
  refine wp_iload_n (t := 12) rfl rfl ?_
  refine wp_top (fun y21 e21 => ?_)
  have z21 : zin y21 := (by rw [e21]; exact b6)
  rcases (show y21 = 98 ∨ y21 = 99 ∨ y21 = 109 ∨ y21 = 119 ∨ (¬ y21 = 98 ∧ ¬ y21 = 99 ∧ ¬ y21 = 109 ∧ ¬ y21 = 119) by omega) with h21 | h21 | h21 | h21 | h21
  · refine wp_look (t := 13) (off := 106) (tgt := 127) rfl z21 rfl (by rw [h21]; rfl) (by decide) ?_
    refine wp_aload_n (t := 49) rfl rfl ?_
    refine wp_vi (ci := 10) (c_X10_takesRule (S := S) (p := p) (d := d) hW hn hlen2 ⟨by omega, by omega⟩ y3 hr2 hS) (t := 50) rfl kX10_179 rfl rfl (by omega) (by first | rfl | assumption) ⟨_, _, rfl⟩ (Nat.le_of_ble_eq_true rfl) ⟨Nat.le_refl _, Nat.le_refl _⟩ (fun r128 I128 R128 c128 => ?_)
    refine wp_canon (fun hI3 => ?_)
    obtain ⟨⟨e128, a128, f128⟩, zr128⟩ := c128
    have zr128 := zr128.symm
    subst zr128
    rw [y1, y2] at e128 a128
    refine wp_zreturn (t := 51) rfl rfl (by rw [e128]; split <;> omega) ?_
    have el : pLet T L p = 98 := by omega
    refine ⟨_, rfl, ⟨e128.trans ?_, fun q => ?_, fr2 _ f128⟩, rfl⟩
    · by_cases k : pRok T L S p
      · rw [if_pos k, if_pos ((pIok_b el).mpr k)]
      · rw [if_neg k, if_neg (fun z => k ((pIok_b el).mp z))]
    · unfold pUp pNx
      rw [if_neg (by omega), if_neg (by omega), if_neg (by omega), if_neg (by omega), if_neg (by omega), if_neg (by omega)]
      exact a128 q
  · refine wp_look (t := 13) (off := 101) (tgt := 122) rfl z21 rfl (by rw [h21]; rfl) (by decide) ?_
    refine wp_aload_n (t := 46) rfl rfl ?_
    refine wp_vi (ci := 10) (c_X10_takesCore (S := S) (p := p) (d := d) hW hn hlen2 ⟨by omega, by omega⟩ y3 hr2 hS) (t := 47) rfl kX10_175 rfl rfl (by omega) (by first | rfl | assumption) ⟨_, _, rfl⟩ (Nat.le_of_ble_eq_true rfl) ⟨Nat.le_refl _, Nat.le_refl _⟩ (fun r123 I123 R123 c123 => ?_)
    refine wp_canon (fun hI3 => ?_)
    obtain ⟨⟨e123, a123, f123⟩, zr123⟩ := c123
    have zr123 := zr123.symm
    subst zr123
    rw [y1, y2] at e123 a123
    refine wp_zreturn (t := 48) rfl rfl (by rw [e123]; split <;> omega) ?_
    have el : pLet T L p = 99 := by omega
    refine ⟨_, rfl, ⟨e123.trans ?_, fun q => ?_, fr2 _ f123⟩, rfl⟩
    · by_cases k : pCok T L S p
      · rw [if_pos k, if_pos ((pIok_c el).mpr k)]
      · rw [if_neg k, if_neg (fun z => k ((pIok_c el).mp z))]
    · unfold pUp pNx
      rw [if_neg (by omega), if_neg (by omega), if_pos el, if_neg (by omega), if_neg (by omega), if_pos el]
      exact a123 q
  · refine wp_look (t := 13) (off := 74) (tgt := 95) rfl z21 rfl (by rw [h21]; rfl) (by decide) ?_
    refine wp_aload_n (t := 31) rfl rfl ?_
    refine wp_iconst (t := 32) rfl ?_
    refine wp_bipush (t := 33) rfl (by decide) ?_
    refine wp_vi (ci := 10) (c_X10_takesNumber (p := p + 1) (d := d + 1) hW hn hlen2 y3 ⟨by omega, by omega⟩ (by unfold zin; omega) (by unfold zin; omega)) (t := 34) rfl kX10_155 rfl rfl (by omega) (by first | rfl | assumption) ⟨_, _, rfl⟩ (Nat.le_of_ble_eq_true rfl) ⟨Nat.le_refl _, Nat.le_refl _⟩ (fun r99 I99 R99 c99 => ?_)
    refine wp_canon (fun hI3 => ?_)
    obtain ⟨⟨e99, x99, b99, g99, f99⟩, zr99⟩ := c99
    have zr99 := zr99.symm
    subst zr99
    rw [y1, y2] at e99 x99
    have z99 : 0 ≤ r99 ∧ r99 ≤ 1 := by rcases e99 with q | q <;> omega
    have t99 : I99 127 = T := (f99 127 (by decide)).trans (y2 _)
    have l99 : I99 115 20 = L := (g99 20 (by decide) (by decide)).trans (y1 _)
    have fr99 : mFr I I99 := fr2 _ ⟨fun b b1 b2 => f99 b b1, fun j hj => g99 j (by omega) (by omega)⟩
    refine wp_if_ne (t := 35) (tgt := 107) rfl (by decide) (by first | assumption | exact hI3 _ _ | exact hI2 _ _ | exact hI1 _ _ | exact hI0 _ _ | exact zin_and _ _ | (unfold zin; omega) | (unfold zin at *; omega)) (fun h102 => ?_) (fun h102 => ?_)
    · refine wp_aload_n (t := 38) rfl rfl ?_
      refine wp_aload_n (t := 39) rfl rfl ?_
      refine wp_getI (t := 40) (ji := 22) rfl fX10_144 rfl rfl (by omega) (by first | rfl | assumption) ?_
      refine wp_putI (t := 41) (ji := 24) rfl fX10_172 p10_24 rfl rfl (by omega) (by first | rfl | assumption) (by first | assumption | exact hI3 _ _ | exact hI2 _ _ | exact hI1 _ _ | exact hI0 _ _ | exact zin_and _ _ | (unfold zin; omega) | (unfold zin at *; omega)) ?_
      refine wp_canon (fun hI4 => ?_)
      refine wp_aload_n (t := 42) rfl rfl ?_
      refine wp_bipush (t := 43) rfl (by decide) ?_
      refine wp_vi (ci := 10) (c_X10_isSign (d := d + 1) hW hn (by rw [zu_ni (by decide), l99]; exact hlen) (by rw [zu_ni (by decide)]; omega) (by omega)) (t := 44) rfl kX10_159 rfl rfl (by omega) (by first | rfl | assumption) ⟨_, _, rfl⟩ (Nat.le_of_ble_eq_true rfl) ⟨Nat.le_refl _, Nat.le_refl _⟩ (fun r118 I118 R118 c118 => ?_)
      refine wp_canon (fun hI5 => ?_)
      obtain ⟨⟨e118, x118, b118, g118, f118⟩, zr118⟩ := c118
      have zr118 := zr118.symm
      subst zr118
      rw [zu_ne (b := 127) (by decide), zu_ni (by decide), zu_ni (by decide), t99, l99] at e118
      rw [zu_ni (by decide)] at x118
      have e99 : r99 = 1 ∧ ¬ pFig T L (p + 1) = -4 ∧ I99 115 21 = pEnd T L (p + 1) ∧ I99 115 22 = pVal T L (p + 1) ∧ 1 ≤ pVal T L (p + 1) ∧ pVal T L (p + 1) ≤ 40 := by rcases e99 with q | q; omega; exact q
      have z118 : 0 ≤ r118 ∧ r118 ≤ 1 := by rw [e118]; split <;> omega
      have ok118 : ¬ r118 = 0 ↔ pNok T L 1 40 59 (p + 1) := by
        rw [e99.2.2.1] at e118
        by_cases q : pLet T L (pEnd T L (p + 1)) = 59
        · rw [if_pos q] at e118
          exact ⟨fun _ => ⟨e99.2.1, q, e99.2.2.2.2⟩, fun _ => by omega⟩
        · rw [if_neg q] at e118
          exact ⟨fun h => by omega, fun h => absurd h.2.1 q⟩
      have fr118 : mFr I I118 := mFr_trans (mFr_u fr99 (by omega)) ⟨fun b b1 b2 => f118 b b1, fun j hj => g118 j (by omega)⟩
      refine wp_zreturn (t := 45) rfl rfl (by omega) ?_
      have el : pLet T L p = 109 := by omega
      by_cases okk : r118 = 0
      · rw [okk]
        exact ⟨_, rfl, ⟨(if_neg (fun k => ok118.mpr (pNum_iff.mp ((pIok_m el).mp k)) okk)).symm, fun q => absurd rfl q, fr118⟩, rfl⟩
      have n1 := pNok_num (ok118.mp okk)
      refine ⟨_, rfl, ⟨by rw [if_pos ((pIok_m el).mpr n1.1)]; omega, fun _ => ?_, fr118⟩, rfl⟩
      unfold pUp pNx
      rw [if_neg (by omega), if_pos el, if_neg (by omega), if_pos el]
      refine ⟨?_, by rw [x118 okk, e99.2.2.1]; exact n1.2.2.symm⟩
      obtain ⟨⟨q1, q2, q3, q4⟩, q5, q6⟩ := hr
      have fA : ∀ b : Nat, b ≠ 115 → I118 b = I b := fun b b1 => by rw [f118 b b1, zu_ne b1, f99 b b1, zu_ne b1]
      have gg : ∀ j : Int, j ≠ 21 → j ≠ 22 → j ≠ 24 → I118 115 j = I 115 j := fun j j1 j2 j3 => by rw [g118 j j1, zu_ni j3, g99 j j1 j2, zu_ni j1]
      refine ⟨⟨by rw [gg 23 (by decide) (by decide) (by decide)]; exact q1, by rw [g118 24 (by decide), zu_eq, e99.2.2.2.1]; exact n1.2.1.symm, by rw [gg 25 (by decide) (by decide) (by decide)]; exact q3, by rw [gg 26 (by decide) (by decide) (by decide)]; exact q4⟩, fun a a0 a1 => ?_, fun b b0 b1 => ?_⟩
      · rw [fA 128 (by decide), fA 129 (by decide), fA 130 (by decide), fA 131 (by decide), fA 132 (by decide)]
        exact q5 a a0 a1
      · rw [fA 133 (by decide), fA 134 (by decide)]
        exact q6 b b0 b1
    · refine wp_iconst (t := 36) rfl ?_
      refine wp_zreturn (t := 37) rfl rfl (by omega) ?_
      have el : pLet T L p = 109 := by omega
      exact ⟨_, rfl, ⟨(if_neg (fun k => x99 (by omega) 59 (Or.inr rfl) (pNum_iff.mp ((pIok_m el).mp k)))).symm, fun q => absurd rfl q, fr99⟩, rfl⟩
  · refine wp_look (t := 13) (off := 43) (tgt := 64) rfl z21 rfl (by rw [h21]; rfl) (by decide) ?_
    refine wp_iload_n (t := 14) rfl rfl ?_
    refine wp_if_gt (t := 15) (tgt := 78) rfl (by decide) (by first | assumption | exact hI2 _ _ | exact hI1 _ _ | exact hI0 _ _ | exact zin_and _ _ | (unfold zin; omega) | (unfold zin at *; omega)) (fun h65 => ?_) (fun h65 => ?_)
    · refine wp_iconst (t := 21) rfl ?_
      refine wp_zreturn (t := 22) rfl rfl (by omega) ?_
      have el : pLet T L p = 119 := by omega
      exact ⟨_, rfl, ⟨(if_neg (fun k => by have := ((pIok_w el).mp k).1; omega)).symm, fun q => absurd rfl q, fr2 _ (mFr_refl _)⟩, rfl⟩
    · refine wp_aload_n (t := 16) rfl rfl ?_
      refine wp_iconst (t := 17) rfl ?_
      refine wp_bipush (t := 18) rfl (by decide) ?_
      refine wp_vi (ci := 10) (c_X10_takesNumber (p := p + 1) (d := d + 1) hW hn hlen2 y3 ⟨by omega, by omega⟩ (by unfold zin; omega) (by unfold zin; omega)) (t := 19) rfl kX10_155 rfl rfl (by omega) (by first | rfl | assumption) ⟨_, _, rfl⟩ (Nat.le_of_ble_eq_true rfl) ⟨Nat.le_refl _, Nat.le_refl _⟩ (fun r72 I72 R72 c72 => ?_)
      refine wp_canon (fun hI3 => ?_)
      obtain ⟨⟨e72, x72, b72, g72, f72⟩, zr72⟩ := c72
      have zr72 := zr72.symm
      subst zr72
      rw [y1, y2] at e72 x72
      have z72 : 0 ≤ r72 ∧ r72 ≤ 1 := by rcases e72 with q | q <;> omega
      have t72 : I72 127 = T := (f72 127 (by decide)).trans (y2 _)
      have l72 : I72 115 20 = L := (g72 20 (by decide) (by decide)).trans (y1 _)
      have fr72 : mFr I I72 := fr2 _ ⟨fun b b1 b2 => f72 b b1, fun j hj => g72 j (by omega) (by omega)⟩
      refine wp_if_ne (t := 20) (tgt := 80) rfl (by decide) (by first | assumption | exact hI3 _ _ | exact hI2 _ _ | exact hI1 _ _ | exact hI0 _ _ | exact zin_and _ _ | (unfold zin; omega) | (unfold zin at *; omega)) (fun h75 => ?_) (fun h75 => ?_)
      · refine wp_aload_n (t := 23) rfl rfl ?_
        refine wp_aload_n (t := 24) rfl rfl ?_
        refine wp_getI (t := 25) (ji := 22) rfl fX10_144 rfl rfl (by omega) (by first | rfl | assumption) ?_
        refine wp_putI (t := 26) (ji := 23) rfl fX10_169 p10_23 rfl rfl (by omega) (by first | rfl | assumption) (by first | assumption | exact hI3 _ _ | exact hI2 _ _ | exact hI1 _ _ | exact hI0 _ _ | exact zin_and _ _ | (unfold zin; omega) | (unfold zin at *; omega)) ?_
        refine wp_canon (fun hI4 => ?_)
        refine wp_aload_n (t := 27) rfl rfl ?_
        refine wp_bipush (t := 28) rfl (by decide) ?_
        refine wp_vi (ci := 10) (c_X10_isSign (d := d + 1) hW hn (by rw [zu_ni (by decide), l72]; exact hlen) (by rw [zu_ni (by decide)]; omega) (by omega)) (t := 29) rfl kX10_159 rfl rfl (by omega) (by first | rfl | assumption) ⟨_, _, rfl⟩ (Nat.le_of_ble_eq_true rfl) ⟨Nat.le_refl _, Nat.le_refl _⟩ (fun r91 I91 R91 c91 => ?_)
        refine wp_canon (fun hI5 => ?_)
        obtain ⟨⟨e91, x91, b91, g91, f91⟩, zr91⟩ := c91
        have zr91 := zr91.symm
        subst zr91
        rw [zu_ne (b := 127) (by decide), zu_ni (by decide), zu_ni (by decide), t72, l72] at e91
        rw [zu_ni (by decide)] at x91
        have e72 : r72 = 1 ∧ ¬ pFig T L (p + 1) = -4 ∧ I72 115 21 = pEnd T L (p + 1) ∧ I72 115 22 = pVal T L (p + 1) ∧ 1 ≤ pVal T L (p + 1) ∧ pVal T L (p + 1) ≤ 8 := by rcases e72 with q | q; omega; exact q
        have z91 : 0 ≤ r91 ∧ r91 ≤ 1 := by rw [e91]; split <;> omega
        have ok91 : ¬ r91 = 0 ↔ pNok T L 1 8 59 (p + 1) := by
          rw [e72.2.2.1] at e91
          by_cases q : pLet T L (pEnd T L (p + 1)) = 59
          · rw [if_pos q] at e91
            exact ⟨fun _ => ⟨e72.2.1, q, e72.2.2.2.2⟩, fun _ => by omega⟩
          · rw [if_neg q] at e91
            exact ⟨fun h => by omega, fun h => absurd h.2.1 q⟩
        have fr91 : mFr I I91 := mFr_trans (mFr_u fr72 (by omega)) ⟨fun b b1 b2 => f91 b b1, fun j hj => g91 j (by omega)⟩
        refine wp_zreturn (t := 30) rfl rfl (by omega) ?_
        have el : pLet T L p = 119 := by omega
        by_cases okk : r91 = 0
        · rw [okk]
          exact ⟨_, rfl, ⟨(if_neg (fun k => ok91.mpr (pNum_iff.mp ((pIok_w el).mp k).2) okk)).symm, fun q => absurd rfl q, fr91⟩, rfl⟩
        have n1 := pNok_num (ok91.mp okk)
        refine ⟨_, rfl, ⟨by rw [if_pos ((pIok_w el).mpr ⟨by omega, n1.1⟩)]; omega, fun _ => ?_, fr91⟩, rfl⟩
        unfold pUp pNx
        rw [if_pos el, if_pos el]
        refine ⟨?_, by rw [x91 okk, e72.2.2.1]; exact n1.2.2.symm⟩
        obtain ⟨⟨q1, q2, q3, q4⟩, q5, q6⟩ := hr
        have fA : ∀ b : Nat, b ≠ 115 → I91 b = I b := fun b b1 => by rw [f91 b b1, zu_ne b1, f72 b b1, zu_ne b1]
        have gg : ∀ j : Int, j ≠ 21 → j ≠ 22 → j ≠ 23 → I91 115 j = I 115 j := fun j j1 j2 j3 => by rw [g91 j j1, zu_ni j3, g72 j j1 j2, zu_ni j1]
        refine ⟨⟨by rw [g91 23 (by decide), zu_eq, e72.2.2.2.1]; exact n1.2.1.symm, by rw [gg 24 (by decide) (by decide) (by decide)]; exact q2, by rw [gg 25 (by decide) (by decide) (by decide)]; exact q3, by rw [gg 26 (by decide) (by decide) (by decide)]; exact q4⟩, fun a a0 a1 => ?_, fun b b0 b1 => ?_⟩
        · rw [fA 128 (by decide), fA 129 (by decide), fA 130 (by decide), fA 131 (by decide), fA 132 (by decide)]
          exact q5 a a0 a1
        · rw [fA 133 (by decide), fA 134 (by decide)]
          exact q6 b b0 b1
      · refine wp_iconst (t := 21) rfl ?_
        refine wp_zreturn (t := 22) rfl rfl (by omega) ?_
        have el : pLet T L p = 119 := by omega
        exact ⟨_, rfl, ⟨(if_neg (fun k => x72 (by omega) 59 (Or.inr rfl) (pNum_iff.mp ((pIok_w el).mp k).2))).symm, fun q => absurd rfl q, fr72⟩, rfl⟩
  · refine wp_look (t := 13) (off := 111) (tgt := 132) rfl z21 rfl (by simp [Op.lookupswitch.offset, h21]; repeat (rw [if_neg (by omega)])) (by decide) ?_
    refine wp_iconst (t := 52) rfl ?_
    refine wp_zreturn (t := 53) rfl rfl (by omega) ?_
    exact ⟨_, rfl, ⟨(if_neg (pIok_n (by omega) (by omega) (by omega) (by omega))).symm, fun q => absurd rfl q, fr2 _ (mFr_refl _)⟩, rfl⟩
set_option maxHeartbeats 4000000 in
set_option maxRecDepth 100000 in
theorem c_X10_fault {G : zG} {d n : Nat} {I : zMem} {R : zRef} (hW : zWir n R) (hn : 143 ≤ n) (hlen : 0 ≤ I 115 20 ∧ I 115 20 ≤ 200) : MT G mX10_fault (d + 4) 0 0 [zR 115] n I R (zP1 (fun r I' R' => (r = (pParse (I 127) (I 115 20) 200 pS0 0).1 ∧ (r = -4 ∨ (0 ≤ r ∧ r < 200)) ∧ (r = -4 → mRd I' (pParse (I 127) (I 115 20) 200 pS0 0).2) ∧ mFr I I') ∧ R' = R)) := by
  refine MT.of (by decide +kernel) tX10_fault_ok (Nat.le_of_ble_eq_true rfl) (fun hI0 => ?_)
  have key : ∀ (f : Nat) (J : zMem) (S : pS) (p : Int) (x1 : Option zV), I 115 20 - p ≤ f → J 115 21 = p → 0 ≤ p → zin p → mRd J S → pGood S → mFr I J → WP G mX10_fault (d + 4) 0 0 0 0 26 [some (zR 115), x1] [] n J R (zP1 (fun r I' R' => (r = (pParse (I 127) (I 115 20) f S p).1 ∧ (r = -4 ∨ (0 ≤ r ∧ r < 200)) ∧ (r = -4 → mRd I' (pParse (I 127) (I 115 20) f S p).2) ∧ mFr I I') ∧ R' = R)) := by
    intro f
    induction f with
    | zero =>
      intro J S p x1 hf hp p0 hz hr hS fr
      have e1 : J 115 20 = I 115 20 := fr.2 20 (by decide)
      refine wp_canon (fun hI0 => ?_)
      refine wp_aload_n (t := 15) rfl rfl ?_
      refine wp_getI (t := 16) (ji := 21) rfl fX10_137 rfl rfl (by omega) (by first | rfl | assumption) ?_
      rw [hp]
      refine wp_aload_n (t := 17) rfl rfl ?_
      refine wp_getI (t := 18) (ji := 20) rfl fX10_134 rfl rfl (by omega) (by first | rfl | assumption) ?_
      rw [e1]
      refine wp_icmp_ge (t := 19) (tgt := 54) rfl (by decide) (by first | assumption | exact hI0 _ _ | exact zin_and _ _ | (unfold zin; omega) | (unfold zin at *; omega)) (by first | assumption | exact hI0 _ _ | exact zin_and _ _ | (unfold zin; omega) | (unfold zin at *; omega)) (fun h34 => ?_) (fun h34 => ?_)
      · refine wp_bipush (t := 29) rfl (by decide) ?_
        refine wp_ireturn (t := 30) rfl rfl ?_
        exact ⟨_, rfl, ⟨rfl, Or.inl rfl, fun _ => hr, fr⟩, rfl⟩
      · exact absurd h34 (by omega)
    | succ f ih =>
      intro J S p x1 hf hp p0 hz hr hS fr
      have e1 : J 115 20 = I 115 20 := fr.2 20 (by decide)
      have y2 : J 127 = I 127 := fr.1 127 (by decide) (by decide)
      have hu : pParse (I 127) (I 115 20) (f + 1) S p = if I 115 20 ≤ p then ((-4 : Int), S) else if pIok (I 127) (I 115 20) S p then pParse (I 127) (I 115 20) f (pUp (I 127) (I 115 20) S p) (pNx (I 127) (I 115 20) S p) else (p, S) := rfl
      rw [hu]
      refine wp_canon (fun hI0 => ?_)
      refine wp_aload_n (t := 15) rfl rfl ?_
      refine wp_getI (t := 16) (ji := 21) rfl fX10_137 rfl rfl (by omega) (by first | rfl | assumption) ?_
      rw [hp]
      refine wp_aload_n (t := 17) rfl rfl ?_
      refine wp_getI (t := 18) (ji := 20) rfl fX10_134 rfl rfl (by omega) (by first | rfl | assumption) ?_
      rw [e1]
      refine wp_icmp_ge (t := 19) (tgt := 54) rfl (by decide) (by first | assumption | exact hI0 _ _ | exact zin_and _ _ | (unfold zin; omega) | (unfold zin at *; omega)) (by first | assumption | exact hI0 _ _ | exact zin_and _ _ | (unfold zin; omega) | (unfold zin at *; omega)) (fun h34 => ?_) (fun h34 => ?_)
      · refine wp_bipush (t := 29) rfl (by decide) ?_
        refine wp_ireturn (t := 30) rfl rfl ?_
        rw [if_pos (by omega)]
        exact ⟨_, rfl, ⟨rfl, Or.inl rfl, fun _ => hr, fr⟩, rfl⟩
      · refine wp_aload_n (t := 20) rfl rfl ?_
        refine wp_getI (t := 21) (ji := 21) rfl fX10_137 rfl rfl (by omega) (by first | rfl | assumption) ?_
        rw [hp]
        refine wp_istore_n (t := 22) rfl (by decide) rfl ?_
        refine wp_aload_n (t := 23) rfl rfl ?_
        refine wp_vi (ci := 10) (c_X10_takesItem (S := S) (p := p) (d := d) hW hn (by rw [e1]; exact hlen) ⟨p0, by omega⟩ hp hr hS) (t := 24) rfl kX10_182 rfl rfl (by omega) (by first | rfl | assumption) ⟨_, _, rfl⟩ (Nat.le_of_ble_eq_true rfl) ⟨Nat.le_refl _, Nat.le_refl _⟩ (fun r43 I43 R43 c43 => ?_)
        refine wp_canon (fun hI1 => ?_)
        obtain ⟨⟨e43, a43, f43⟩, zr43⟩ := c43
        have zr43 := zr43.symm
        subst zr43
        rw [e1, y2] at e43 a43
        have b43 : 0 ≤ r43 ∧ r43 ≤ 1 := by rw [e43]; split <;> omega
        have fr9 : mFr I I43 := mFr_trans fr f43
        refine wp_if_ne (t := 25) (tgt := 51) rfl (by decide) (by first | assumption | exact hI1 _ _ | exact hI0 _ _ | exact zin_and _ _ | (unfold zin; omega) | (unfold zin at *; omega)) (fun h46 => ?_) (fun h46 => ?_)
        · refine wp_goto (t := 28) (tgt := 26) rfl (by decide) ?_
          have ok : pIok (I 127) (I 115 20) S p := Classical.byContradiction (fun k => by rw [if_neg k] at e43; omega)
          have ug := pUp_good hS ok
          have g := a43 h46
          rw [if_neg (by omega), if_pos ok]
          exact ih I43 _ _ _ (by omega) g.2 (by omega) (by rw [← g.2]; exact hI1 _ _) g.1 ug.1 fr9
        · refine wp_iload_n (t := 26) rfl rfl ?_
          refine wp_ireturn (t := 27) rfl rfl ?_
          have nk : ¬ pIok (I 127) (I 115 20) S p := fun k => by rw [if_pos k] at e43; omega
          rw [if_neg (by omega), if_neg nk]
          exact ⟨_, rfl, ⟨rfl, Or.inr ⟨p0, by omega⟩, fun q => absurd q (by show ¬ p = -4; omega), fr9⟩, rfl⟩
  refine wp_ls (ls' := [some (zR 115), none]) rfl ?_
  refine wp_aload_n (t := 0) rfl rfl ?_
  refine wp_iconst (t := 1) rfl ?_
  refine wp_putI (t := 2) (ji := 21) rfl fX10_137 p10_21 rfl rfl (by omega) (by first | rfl | assumption) (by first | assumption | exact hI0 _ _ | exact zin_and _ _ | (unfold zin; omega) | (unfold zin at *; omega)) ?_
  refine wp_canon (fun hI1 => ?_)
  refine wp_aload_n (t := 3) rfl rfl ?_
  refine wp_iconst (t := 4) rfl ?_
  refine wp_putI (t := 5) (ji := 23) rfl fX10_169 p10_23 rfl rfl (by omega) (by first | rfl | assumption) (by first | assumption | exact hI1 _ _ | exact hI0 _ _ | exact zin_and _ _ | (unfold zin; omega) | (unfold zin at *; omega)) ?_
  refine wp_canon (fun hI2 => ?_)
  refine wp_aload_n (t := 6) rfl rfl ?_
  refine wp_bipush (t := 7) rfl (by decide) ?_
  refine wp_putI (t := 8) (ji := 24) rfl fX10_172 p10_24 rfl rfl (by omega) (by first | rfl | assumption) (by first | assumption | exact hI2 _ _ | exact hI1 _ _ | exact hI0 _ _ | exact zin_and _ _ | (unfold zin; omega) | (unfold zin at *; omega)) ?_
  refine wp_canon (fun hI3 => ?_)
  refine wp_aload_n (t := 9) rfl rfl ?_
  refine wp_iconst (t := 10) rfl ?_
  refine wp_putI (t := 11) (ji := 25) rfl fX10_112 p10_25 rfl rfl (by omega) (by first | rfl | assumption) (by first | assumption | exact hI3 _ _ | exact hI2 _ _ | exact hI1 _ _ | exact hI0 _ _ | exact zin_and _ _ | (unfold zin; omega) | (unfold zin at *; omega)) ?_
  refine wp_canon (fun hI4 => ?_)
  refine wp_aload_n (t := 12) rfl rfl ?_
  refine wp_iconst (t := 13) rfl ?_
  refine wp_putI (t := 14) (ji := 26) rfl fX10_166 p10_26 rfl rfl (by omega) (by first | rfl | assumption) (by first | assumption | exact hI4 _ _ | exact hI3 _ _ | exact hI2 _ _ | exact hI1 _ _ | exact hI0 _ _ | exact zin_and _ _ | (unfold zin; omega) | (unfold zin at *; omega)) ?_
  refine wp_canon (fun hI5 => ?_)
  refine key 200 _ pS0 0 none (by omega) ?_ (by omega) (by unfold zin; omega) ⟨⟨?_, ?_, ?_, ?_⟩, fun c c0 c1 => absurd c1 (by show ¬ c < 0; omega), fun b b0 b1 => absurd b1 (by show ¬ b < 0; omega)⟩ pGood0 (mFr_u (mFr_u (mFr_u (mFr_u (mFr_u (mFr_refl I) (by omega)) (by omega)) (by omega)) (by omega)) (by omega))
  · rw [zu_ni (by decide), zu_ni (by decide), zu_ni (by decide), zu_ni (by decide), zu_eq]
  · rw [zu_ni (by decide), zu_ni (by decide), zu_ni (by decide), zu_eq]; rfl
  · rw [zu_ni (by decide), zu_ni (by decide), zu_eq]; rfl
  · rw [zu_ni (by decide), zu_eq]; rfl
  · rw [zu_eq]; rfl
