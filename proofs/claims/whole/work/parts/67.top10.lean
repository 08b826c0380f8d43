/-! the reference's own methods: simple ones -/
set_option maxHeartbeats 4000000 in
set_option maxRecDepth 100000 in
theorem c_X10_write {G : zG} {d n : Nat} {I : zMem} {R : zRef} {x : Int} (hW : zWir n R) (hn : 143 ≤ n) (hx : zin x) (hlen : 0 ≤ I 115 20 ∧ I 115 20 ≤ 200) : MT G mX10_write (d + 1) 0 0 [zR 115, zI x] n I R (zP1 (fun r I' R' => ((¬ (32 ≤ x ∧ x ≤ 126) ∧ r = -1 ∧ I' = I) ∨ ((32 ≤ x ∧ x ≤ 126) ∧ I 115 20 = 200 ∧ r = -3 ∧ I' = I) ∨ ((32 ≤ x ∧ x ≤ 126) ∧ I 115 20 < 200 ∧ r = I 115 20 + 1 ∧ I' = zu (zu I 127 (I 115 20) x) 115 20 (I 115 20 + 1))) ∧ R' = R)) := by
  refine MT.of (by decide +kernel) tX10_write_ok (Nat.le_of_ble_eq_true rfl) (fun hI0 => ?_)
  have e1 : zu I 127 (I 115 20) x 115 20 = I 115 20 := zu_na (by decide)
  refine wp_ls (ls' := [some (zR 115), some (zI x)]) rfl ?_
  refine wp_iload_n (t := 0) rfl rfl ?_
  refine wp_i2l (t := 1) rfl (by first | assumption | exact hI0 _ _ | exact zin_and _ _ | (unfold zin; omega) | (unfold zin at *; omega)) ?_
  refine wp_ldc2 (32) (t := 2) rfl (wsL_law_r16_l (List.mem_of_getElem? (i := 10) rfl)) (by decide) ?_
  refine wp_ldc2 (126) (t := 3) rfl (wsL_law_r16_l (List.mem_of_getElem? (i := 11) rfl)) (by decide) ?_
  refine wp_si (c_X10_in (d := d) (zin_long hx) (by unfold zinL; omega) (by unfold zinL; omega)) (t := 4) rfl kX10_124 rfl rfl (Nat.le_of_ble_eq_true rfl) ⟨Nat.le_refl _, Nat.le_refl _⟩ (fun r8 I8 R8 c8 => ?_)
  refine wp_canon (fun hI1 => ?_)
  obtain ⟨e8, zi8, zr8⟩ := c8
  have zi8 := zi8.symm
  subst zi8
  have zr8 := zr8.symm
  subst zr8
  have b8 : 0 ≤ r8 ∧ r8 ≤ 1 := by rw [e8]; split <;> omega
  have n8 : ¬ r8 = 0 → 32 ≤ x ∧ x ≤ 126 := fun h => by (rw [e8] at h; by_cases q : 32 ≤ x ∧ x ≤ 126; exact q; rw [if_neg q] at h; exact absurd rfl h)
  have m8 : r8 = 0 → ¬ (32 ≤ x ∧ x ≤ 126) := fun h q => by (rw [e8, if_pos q] at h; exact absurd h (by decide))
  refine wp_if_ne (t := 5) (tgt := 16) rfl (by decide) (by first | assumption | exact hI1 _ _ | exact hI0 _ _ | exact zin_and _ _ | (unfold zin; omega) | (unfold zin at *; omega)) (fun h11 => ?_) (fun h11 => ?_)
  · refine wp_aload_n (t := 8) rfl rfl ?_
    refine wp_getI (t := 9) (ji := 20) rfl fX10_134 rfl rfl (by omega) (by first | rfl | assumption) ?_
    refine wp_sipush (t := 10) rfl (by decide) ?_
    refine wp_icmp_ne (t := 11) (tgt := 29) rfl (by decide) (by first | assumption | exact hI1 _ _ | exact hI0 _ _ | exact zin_and _ _ | (unfold zin; omega) | (unfold zin at *; omega)) (by first | assumption | exact hI1 _ _ | exact hI0 _ _ | exact zin_and _ _ | (unfold zin; omega) | (unfold zin at *; omega)) (fun h23 => ?_) (fun h23 => ?_)
    · refine wp_aload_n (t := 14) rfl rfl ?_
      refine wp_getR (t := 15) (ji := 19) rfl fX10_43 rfl rfl (by omega) (by first | rfl | assumption) (by first | exact hW _ _ _ (by omega) rfl | assumption) ?_
      refine wp_aload_n (t := 16) rfl rfl ?_
      refine wp_getI (t := 17) (ji := 20) rfl fX10_134 rfl rfl (by omega) (by first | rfl | assumption) ?_
      refine wp_iload_n (t := 18) rfl rfl ?_
      refine wp_iastore (t := 19) rfl (by omega) (by first | rfl | assumption) (by omega) (by omega) (by omega) (by first | assumption | exact hI1 _ _ | exact hI0 _ _ | exact zin_and _ _ | (unfold zin; omega) | (unfold zin at *; omega)) ?_
      refine wp_canon (fun hI2 => ?_)
      refine wp_aload_n (t := 20) rfl rfl ?_
      refine wp_dup (t := 21) rfl rfl ?_
      refine wp_getI (t := 22) (ji := 20) rfl fX10_134 rfl rfl (by omega) (by first | rfl | assumption) ?_
      rw [e1]
      refine wp_iconst (t := 23) rfl ?_
      refine wp_iadd (t := 24) rfl ?_
      refine wp_putI (t := 25) (ji := 20) rfl fX10_134 p10_20 rfl rfl (by omega) (by first | rfl | assumption) (by first | assumption | exact hI2 _ _ | exact hI1 _ _ | exact hI0 _ _ | exact zin_and _ _ | (unfold zin; omega) | (unfold zin at *; omega)) ?_
      refine wp_canon (fun hI3 => ?_)
      refine wp_aload_n (t := 26) rfl rfl ?_
      refine wp_getI (t := 27) (ji := 20) rfl fX10_134 rfl rfl (by omega) (by first | rfl | assumption) ?_
      rw [zu_eq]
      refine wp_ireturn (t := 28) rfl rfl ?_
      exact ⟨_, rfl, Or.inr (Or.inr ⟨n8 h11, by omega, rfl, rfl⟩), rfl⟩
    · refine wp_bipush (t := 12) rfl (by decide) ?_
      refine wp_ireturn (t := 13) rfl rfl ?_
      exact ⟨_, rfl, Or.inr (Or.inl ⟨n8 h11, by omega, rfl, rfl⟩), rfl⟩
  · refine wp_iconst (t := 6) rfl ?_
    refine wp_ireturn (t := 7) rfl rfl ?_
    exact ⟨_, rfl, Or.inl ⟨m8 (by omega), rfl, rfl⟩, rfl⟩
set_option maxHeartbeats 4000000 in
set_option maxRecDepth 100000 in
theorem c_X10_wipe {G : zG} {d n : Nat} {I : zMem} {R : zRef} (hW : zWir n R) (hn : 143 ≤ n) : MT G mX10_wipe d 0 0 [zR 115] n I R (zP1 (fun r I' R' => (r = I 115 20 ∧ I' = zu I 115 20 0) ∧ R' = R)) := by
  refine MT.of (by decide +kernel) tX10_wipe_ok (Nat.le_of_ble_eq_true rfl) (fun hI0 => ?_)
  refine wp_ls (ls' := [some (zR 115), none]) rfl ?_
  refine wp_aload_n (t := 0) rfl rfl ?_
  refine wp_getI (t := 1) (ji := 20) rfl fX10_134 rfl rfl (by omega) (by first | rfl | assumption) ?_
  refine wp_istore_n (t := 2) rfl (by decide) rfl ?_
  refine wp_aload_n (t := 3) rfl rfl ?_
  refine wp_iconst (t := 4) rfl ?_
  refine wp_putI (t := 5) (ji := 20) rfl fX10_134 p10_20 rfl rfl (by omega) (by first | rfl | assumption) (by first | assumption | exact hI0 _ _ | exact zin_and _ _ | (unfold zin; omega) | (unfold zin at *; omega)) ?_
  refine wp_canon (fun hI1 => ?_)
  refine wp_iload_n (t := 6) rfl rfl ?_
  refine wp_ireturn (t := 7) rfl rfl ?_
  exact ⟨_, rfl, ⟨rfl, rfl⟩, rfl⟩
def mCore (I : zMem) (c wh r : Int) (I' : zMem) : Prop :=
  (¬ (0 ≤ c ∧ c < I 115 2) ∧ r = -1 ∧ I' = I) ∨ ((0 ≤ c ∧ c < I 115 2) ∧ ((¬ wh = 6 ∧ I' = I ∧ r = (if wh = 0 then I 122 c else if wh = 1 then I 116 c else if wh = 2 then I 117 c else if wh = 3 then I 118 c else if wh = 4 then (if 0 < I 122 (6 + c) then I 122 (6 + c) else -4) else if wh = 5 then (if 0 < I 122 (6 + c) then I 122 (12 + c) else -4) else -1)) ∨ (wh = 6 ∧ mSt I I' ∧ mTaken I' ∧ r = (zst (sT (mS I' (-4)) c) (I 115 0).toNat).1)))
set_option maxHeartbeats 4000000 in
set_option maxRecDepth 100000 in
theorem c_X10_core {G : zG} {d n : Nat} {I : zMem} {R : zRef} {c wh : Int} (hW : zWir n R) (hn : 143 ≤ n) (hch : mCh I) (hc : zin c) (hwh : zin wh) : MT G mX10_core (d + 4) 0 0 [zR 115, zI c, zI wh] n I R (zP1 (fun r I' R' => mCore I c wh r I' ∧ R' = R)) := by
  refine MT.of (by decide +kernel) tX10_core_ok (Nat.le_of_ble_eq_true rfl) (fun hI0 => ?_)
  have hco := hch.1
  refine wp_ls (ls' := [some (zR 115), some (zI c), some (zI wh)]) rfl ?_
  refine wp_aload_n (t := 0) rfl rfl ?_
  refine wp_iload_n (t := 1) rfl rfl ?_
  refine wp_vi (ci := 10) (c_X10_isCore (d := d + 2) hW hn hc ⟨by omega, by omega⟩) (t := 2) rfl kX10_212 rfl rfl (by omega) (by first | rfl | assumption) ⟨_, _, rfl⟩ (Nat.le_of_ble_eq_true rfl) ⟨Nat.le_refl _, Nat.le_refl _⟩ (fun r2 I2 R2 c2 => ?_)
  refine wp_canon (fun hI1 => ?_)
  obtain ⟨e2, zi2, zr2⟩ := c2
  have zi2 := zi2.symm
  subst zi2
  have zr2 := zr2.symm
  subst zr2
  have b2 : 0 ≤ r2 ∧ r2 ≤ 1 := by rw [e2]; split <;> omega
  have n2 : ¬ r2 = 0 → 0 ≤ c ∧ c < I 115 2 := fun h => by (rw [e2] at h; by_cases q : 0 ≤ c ∧ c < I 115 2; exact q; rw [if_neg q] at h; exact absurd rfl h)
  have m2 : r2 = 0 → ¬ (0 ≤ c ∧ c < I 115 2) := fun h q => by (rw [e2, if_pos q] at h; exact absurd h (by decide))
  refine wp_if_ne (t := 3) (tgt := 10) rfl (by decide) (by first | assumption | exact hI1 _ _ | exact hI0 _ _ | exact zin_and _ _ | (unfold zin; omega) | (unfold zin at *; omega)) (fun h5 => ?_) (fun h5 => ?_)
  · refine wp_iload_n (t := 6) rfl rfl ?_
    have cc := n2 (by assumption)
    refine wp_top (fun y11 e11 => ?_)
    have z11 : zin y11 := (by first | assumption | exact hI1 _ _ | exact hI0 _ _ | exact zin_and _ _ | (unfold zin; omega) | (unfold zin at *; omega) | (rw [e11]; first | exact hI1 _ _ | exact hI0 _ _ | (unfold zin; omega)))
    rcases (show y11 = 0 ∨ y11 = 1 ∨ y11 = 2 ∨ y11 = 3 ∨ y11 = 4 ∨ y11 = 5 ∨ y11 = 6 ∨ (y11 < 0 ∨ 6 < y11) by omega) with h11 | h11 | h11 | h11 | h11 | h11 | h11 | h11
    · refine wp_tin (0) (t := 7) (off := 41) (tgt := 52) rfl h11 z11 (by decide) (by decide) rfl (by decide) ?_
      refine wp_aload_n (t := 8) rfl rfl ?_
      refine wp_getR (t := 9) (ji := 10) rfl fX10_28 rfl rfl (by omega) (by first | rfl | assumption) (by first | exact hW _ _ _ (by omega) rfl | assumption) ?_
      refine wp_iconst (t := 10) rfl ?_
      refine wp_iload_n (t := 11) rfl rfl ?_
      refine wp_iadd (t := 12) rfl ?_
      rw [Int.zero_add]
      refine wp_iaload (t := 13) rfl (by omega) (by first | rfl | assumption) (by omega) (by omega) (by omega) ?_
      refine wp_ireturn (t := 14) rfl rfl ?_
      exact ⟨_, rfl, Or.inr ⟨cc, Or.inl ⟨by omega, rfl, by rw [if_pos (by omega)]⟩⟩, rfl⟩
    · refine wp_tin (1) (t := 7) (off := 50) (tgt := 61) rfl h11 z11 (by decide) (by decide) rfl (by decide) ?_
      refine wp_aload_n (t := 15) rfl rfl ?_
      refine wp_getR (t := 16) (ji := 4) rfl fX10_7 rfl rfl (by omega) (by first | rfl | assumption) (by first | exact hW _ _ _ (by omega) rfl | assumption) ?_
      refine wp_iload_n (t := 17) rfl rfl ?_
      refine wp_iaload (t := 18) rfl (by omega) (by first | rfl | assumption) (by omega) (by omega) (by omega) ?_
      refine wp_ireturn (t := 19) rfl rfl ?_
      exact ⟨_, rfl, Or.inr ⟨cc, Or.inl ⟨by omega, rfl, by rw [if_neg (by omega), if_pos (by omega)]⟩⟩, rfl⟩
    · refine wp_tin (2) (t := 7) (off := 57) (tgt := 68) rfl h11 z11 (by decide) (by decide) rfl (by decide) ?_
      refine wp_aload_n (t := 20) rfl rfl ?_
      refine wp_getR (t := 21) (ji := 5) rfl fX10_13 rfl rfl (by omega) (by first | rfl | assumption) (by first | exact hW _ _ _ (by omega) rfl | assumption) ?_
      refine wp_iload_n (t := 22) rfl rfl ?_
      refine wp_iaload (t := 23) rfl (by omega) (by first | rfl | assumption) (by omega) (by omega) (by omega) ?_
      refine wp_ireturn (t := 24) rfl rfl ?_
      exact ⟨_, rfl, Or.inr ⟨cc, Or.inl ⟨by omega, rfl, by rw [if_neg (by omega), if_neg (by omega), if_pos (by omega)]⟩⟩, rfl⟩
    · refine wp_tin (3) (t := 7) (off := 64) (tgt := 75) rfl h11 z11 (by decide) (by decide) rfl (by decide) ?_
      refine wp_aload_n (t := 25) rfl rfl ?_
      refine wp_getR (t := 26) (ji := 6) rfl fX10_16 rfl rfl (by omega) (by first | rfl | assumption) (by first | exact hW _ _ _ (by omega) rfl | assumption) ?_
      refine wp_iload_n (t := 27) rfl rfl ?_
      refine wp_iaload (t := 28) rfl (by omega) (by first | rfl | assumption) (by omega) (by omega) (by omega) ?_
      refine wp_ireturn (t := 29) rfl rfl ?_
      exact ⟨_, rfl, Or.inr ⟨cc, Or.inl ⟨by omega, rfl, by rw [if_neg (by omega), if_neg (by omega), if_neg (by omega), if_pos (by omega)]⟩⟩, rfl⟩
    · refine wp_tin (4) (t := 7) (off := 71) (tgt := 82) rfl h11 z11 (by decide) (by decide) rfl (by decide) ?_
      refine wp_aload_n (t := 30) rfl rfl ?_
      refine wp_iload_n (t := 31) rfl rfl ?_
      refine wp_vi (ci := 10) (c_X10_isPut (d := d + 3) hW hn ⟨by omega, by omega⟩) (t := 32) rfl kX10_215 rfl rfl (by omega) (by first | rfl | assumption) ⟨_, _, rfl⟩ (Nat.le_of_ble_eq_true rfl) ⟨Nat.le_refl _, Nat.le_refl _⟩ (fun r84 I84 R84 c84 => ?_)
      refine wp_canon (fun hI2 => ?_)
      obtain ⟨e84, zi84, zr84⟩ := c84
      have zi84 := zi84.symm
      subst zi84
      have zr84 := zr84.symm
      subst zr84
      have b84 : 0 ≤ r84 ∧ r84 ≤ 1 := by rw [e84]; split <;> omega
      have n84 : ¬ r84 = 0 → 0 < I 122 (6 + c) := fun h => by (rw [e84] at h; by_cases q : 0 < I 122 (6 + c); exact q; rw [if_neg q] at h; exact absurd rfl h)
      have m84 : r84 = 0 → ¬ (0 < I 122 (6 + c)) := fun h q => by (rw [e84, if_pos q] at h; exact absurd h (by decide))
      refine wp_if_eq (t := 33) (tgt := 102) rfl (by decide) (by first | assumption | exact hI2 _ _ | exact hI1 _ _ | exact hI0 _ _ | exact zin_and _ _ | (unfold zin; omega) | (unfold zin at *; omega)) (fun h87 => ?_) (fun h87 => ?_)
      · refine wp_bipush (t := 41) rfl (by decide) ?_
        refine wp_ireturn (t := 42) rfl rfl ?_
        exact ⟨_, rfl, Or.inr ⟨cc, Or.inl ⟨by omega, rfl, by rw [if_neg (by omega), if_neg (by omega), if_neg (by omega), if_neg (by omega), if_pos (by omega), if_neg (m84 h87)]⟩⟩, rfl⟩
      · refine wp_aload_n (t := 34) rfl rfl ?_
        refine wp_getR (t := 35) (ji := 10) rfl fX10_28 rfl rfl (by omega) (by first | rfl | assumption) (by first | exact hW _ _ _ (by omega) rfl | assumption) ?_
        refine wp_bipush (t := 36) rfl (by decide) ?_
        refine wp_iload_n (t := 37) rfl rfl ?_
        refine wp_iadd (t := 38) rfl ?_
        refine wp_iaload (t := 39) rfl (by omega) (by first | rfl | assumption) (by omega) (by omega) (by omega) ?_
        refine wp_goto (t := 40) (tgt := 104) rfl (by decide) ?_
        refine wp_ireturn (t := 42) rfl rfl ?_
        exact ⟨_, rfl, Or.inr ⟨cc, Or.inl ⟨by omega, rfl, by rw [if_neg (by omega), if_neg (by omega), if_neg (by omega), if_neg (by omega), if_pos (by omega), if_pos (n84 h87)]⟩⟩, rfl⟩
    · refine wp_tin (5) (t := 7) (off := 94) (tgt := 105) rfl h11 z11 (by decide) (by decide) rfl (by decide) ?_
      refine wp_aload_n (t := 43) rfl rfl ?_
      refine wp_iload_n (t := 44) rfl rfl ?_
      refine wp_vi (ci := 10) (c_X10_isPut (d := d + 3) hW hn ⟨by omega, by omega⟩) (t := 45) rfl kX10_215 rfl rfl (by omega) (by first | rfl | assumption) ⟨_, _, rfl⟩ (Nat.le_of_ble_eq_true rfl) ⟨Nat.le_refl _, Nat.le_refl _⟩ (fun r107 I107 R107 c107 => ?_)
      refine wp_canon (fun hI2 => ?_)
      obtain ⟨e107, zi107, zr107⟩ := c107
      have zi107 := zi107.symm
      subst zi107
      have zr107 := zr107.symm
      subst zr107
      have b107 : 0 ≤ r107 ∧ r107 ≤ 1 := by rw [e107]; split <;> omega
      have n107 : ¬ r107 = 0 → 0 < I 122 (6 + c) := fun h => by (rw [e107] at h; by_cases q : 0 < I 122 (6 + c); exact q; rw [if_neg q] at h; exact absurd rfl h)
      have m107 : r107 = 0 → ¬ (0 < I 122 (6 + c)) := fun h q => by (rw [e107, if_pos q] at h; exact absurd h (by decide))
      refine wp_if_eq (t := 46) (tgt := 125) rfl (by decide) (by first | assumption | exact hI2 _ _ | exact hI1 _ _ | exact hI0 _ _ | exact zin_and _ _ | (unfold zin; omega) | (unfold zin at *; omega)) (fun h110 => ?_) (fun h110 => ?_)
      · refine wp_bipush (t := 54) rfl (by decide) ?_
        refine wp_ireturn (t := 55) rfl rfl ?_
        exact ⟨_, rfl, Or.inr ⟨cc, Or.inl ⟨by omega, rfl, by rw [if_neg (by omega), if_neg (by omega), if_neg (by omega), if_neg (by omega), if_neg (by omega), if_pos (by omega), if_neg (m107 h110)]⟩⟩, rfl⟩
      · refine wp_aload_n (t := 47) rfl rfl ?_
        refine wp_getR (t := 48) (ji := 10) rfl fX10_28 rfl rfl (by omega) (by first | rfl | assumption) (by first | exact hW _ _ _ (by omega) rfl | assumption) ?_
        refine wp_bipush (t := 49) rfl (by decide) ?_
        refine wp_iload_n (t := 50) rfl rfl ?_
        refine wp_iadd (t := 51) rfl ?_
        refine wp_iaload (t := 52) rfl (by omega) (by first | rfl | assumption) (by omega) (by omega) (by omega) ?_
        refine wp_goto (t := 53) (tgt := 127) rfl (by decide) ?_
        refine wp_ireturn (t := 55) rfl rfl ?_
        exact ⟨_, rfl, Or.inr ⟨cc, Or.inl ⟨by omega, rfl, by rw [if_neg (by omega), if_neg (by omega), if_neg (by omega), if_neg (by omega), if_neg (by omega), if_pos (by omega), if_pos (n107 h110)]⟩⟩, rfl⟩
    · refine wp_tin (6) (t := 7) (off := 117) (tgt := 128) rfl h11 z11 (by decide) (by decide) rfl (by decide) ?_
      refine wp_aload_n (t := 56) rfl rfl ?_
      refine wp_iload_n (t := 57) rfl rfl ?_
      refine wp_vi (ci := 10) (c_X10_stairsOf (wo := -4) (d := d) hW hn hch cc) (t := 58) rfl kX10_218 rfl rfl (by omega) (by first | rfl | assumption) ⟨_, _, rfl⟩ (Nat.le_of_ble_eq_true rfl) ⟨Nat.le_refl _, Nat.le_refl _⟩ (fun r130 I130 R130 c130 => ?_)
      refine wp_canon (fun hI2 => ?_)
      obtain ⟨⟨e130, s130, t130⟩, zr130⟩ := c130
      have zr130 := zr130.symm
      subst zr130
      refine wp_ireturn (t := 59) rfl rfl ?_
      exact ⟨_, rfl, Or.inr ⟨cc, Or.inr ⟨by omega, s130, t130, e130⟩⟩, rfl⟩
    · refine wp_tout (t := 7) (tgt := 134) rfl z11 h11 (by decide) ?_
      refine wp_iconst (t := 60) rfl ?_
      refine wp_ireturn (t := 61) rfl rfl ?_
      exact ⟨_, rfl, Or.inr ⟨cc, Or.inl ⟨by omega, rfl, by rw [if_neg (by omega), if_neg (by omega), if_neg (by omega), if_neg (by omega), if_neg (by omega), if_neg (by omega)]⟩⟩, rfl⟩
  · refine wp_iconst (t := 4) rfl ?_
    refine wp_ireturn (t := 5) rfl rfl ?_
    exact ⟨_, rfl, Or.inl ⟨m2 (by omega), rfl, rfl⟩, rfl⟩
set_option maxHeartbeats 4000000 in
set_option maxRecDepth 100000 in
theorem c_X10_chain {G : zG} {d n : Nat} {I : zMem} {R : zRef} {c i : Int} (hW : zWir n R) (hn : 143 ≤ n) (hch : mCh I) (hc : zin c) (hi : zin i) : MT G mX10_chain (d + 2) 0 0 [zR 115, zI c, zI i] n I R (zP1 (fun r I' R' => r = (if ¬ (0 ≤ c ∧ c < I 115 2) ∨ i < 0 then -1 else if i < I 118 c then I 119 (6 * c + i) else -4) ∧ I' = I ∧ R' = R)) := by
  refine MT.of (by decide +kernel) tX10_chain_ok (Nat.le_of_ble_eq_true rfl) (fun hI0 => ?_)
  have hco := hch.1
  refine wp_ls (ls' := [some (zR 115), some (zI c), some (zI i)]) rfl ?_
  refine wp_aload_n (t := 0) rfl rfl ?_
  refine wp_iload_n (t := 1) rfl rfl ?_
  refine wp_vi (ci := 10) (c_X10_isCore (d := d) hW hn hc ⟨by omega, by omega⟩) (t := 2) rfl kX10_212 rfl rfl (by omega) (by first | rfl | assumption) ⟨_, _, rfl⟩ (Nat.le_of_ble_eq_true rfl) ⟨Nat.le_refl _, Nat.le_refl _⟩ (fun r2 I2 R2 c2 => ?_)
  refine wp_canon (fun hI1 => ?_)
  obtain ⟨e2, zi2, zr2⟩ := c2
  have zi2 := zi2.symm
  subst zi2
  have zr2 := zr2.symm
  subst zr2
  have b2 : 0 ≤ r2 ∧ r2 ≤ 1 := by rw [e2]; split <;> omega
  have n2 : ¬ r2 = 0 → 0 ≤ c ∧ c < I 115 2 := fun h => by (rw [e2] at h; by_cases q : 0 ≤ c ∧ c < I 115 2; exact q; rw [if_neg q] at h; exact absurd rfl h)
  have m2 : r2 = 0 → ¬ (0 ≤ c ∧ c < I 115 2) := fun h q => by (rw [e2, if_pos q] at h; exact absurd h (by decide))
  refine wp_if_eq (t := 3) (tgt := 12) rfl (by decide) (by first | assumption | exact hI1 _ _ | exact hI0 _ _ | exact zin_and _ _ | (unfold zin; omega) | (unfold zin at *; omega)) (fun h5 => ?_) (fun h5 => ?_)
  · refine wp_iconst (t := 6) rfl ?_
    refine wp_ireturn (t := 7) rfl rfl ?_
    exact ⟨_, rfl, (if_pos (Or.inl (m2 h5))).symm, rfl, rfl⟩
  · refine wp_iload_n (t := 4) rfl rfl ?_
    refine wp_if_ge (t := 5) (tgt := 14) rfl (by decide) (by first | assumption | exact hI1 _ _ | exact hI0 _ _ | exact zin_and _ _ | (unfold zin; omega) | (unfold zin at *; omega)) (fun h9 => ?_) (fun h9 => ?_)
    · have cc := n2 (by assumption)
      have cm := (hch.2.2.2.2 c cc.1 cc.2).2.2.1
      refine wp_iload_n (t := 8) rfl rfl ?_
      refine wp_aload_n (t := 9) rfl rfl ?_
      refine wp_getR (t := 10) (ji := 6) rfl fX10_16 rfl rfl (by omega) (by first | rfl | assumption) (by first | exact hW _ _ _ (by omega) rfl | assumption) ?_
      refine wp_iload_n (t := 11) rfl rfl ?_
      refine wp_iaload (t := 12) rfl (by omega) (by first | rfl | assumption) (by omega) (by omega) (by omega) ?_
      refine wp_icmp_ge (t := 13) (tgt := 38) rfl (by decide) (by first | assumption | exact hI1 _ _ | exact hI0 _ _ | exact zin_and _ _ | (unfold zin; omega) | (unfold zin at *; omega)) (by first | assumption | exact hI1 _ _ | exact hI0 _ _ | exact zin_and _ _ | (unfold zin; omega) | (unfold zin at *; omega)) (fun h21 => ?_) (fun h21 => ?_)
      · refine wp_bipush (t := 23) rfl (by decide) ?_
        refine wp_ireturn (t := 24) rfl rfl ?_
        exact ⟨_, rfl, by rw [if_neg (fun q => by rcases q with q | q; exact q cc; omega)]; first | rw [if_pos (by omega)] | rw [if_neg (by omega)], rfl, rfl⟩
      · refine wp_aload_n (t := 14) rfl rfl ?_
        refine wp_getR (t := 15) (ji := 7) rfl fX10_19 rfl rfl (by omega) (by first | rfl | assumption) (by first | exact hW _ _ _ (by omega) rfl | assumption) ?_
        refine wp_bipush (t := 16) rfl (by decide) ?_
        refine wp_iload_n (t := 17) rfl rfl ?_
        refine wp_imul (t := 18) rfl ?_
        refine wp_iload_n (t := 19) rfl rfl ?_
        refine wp_iadd (t := 20) rfl ?_
        refine wp_iaload (t := 21) rfl (by omega) (by first | rfl | assumption) (by omega) (by omega) (by omega) ?_
        refine wp_goto (t := 22) (tgt := 40) rfl (by decide) ?_
        refine wp_ireturn (t := 24) rfl rfl ?_
        exact ⟨_, rfl, by rw [if_neg (fun q => by rcases q with q | q; exact q cc; omega)]; first | rw [if_pos (by omega)] | rw [if_neg (by omega)], rfl, rfl⟩
    · refine wp_iconst (t := 6) rfl ?_
      refine wp_ireturn (t := 7) rfl rfl ?_
      exact ⟨_, rfl, (if_pos (Or.inr (by omega))).symm, rfl, rfl⟩
set_option maxHeartbeats 4000000 in
set_option maxRecDepth 100000 in
theorem c_X10_wrap {G : zG} {d n : Nat} {I : zMem} {R : zRef} {c w wh : Int} (hW : zWir n R) (hn : 143 ≤ n) (hch : mCh I) (hc : zin c) (hw : zin w) (hwh : zin wh) : MT G mX10_wrap (d + 2) 0 0 [zR 115, zI c, zI w, zI wh] n I R (zP1 (fun r I' R' => ((¬ ((0 ≤ c ∧ c < I 115 2) ∧ 1 ≤ w ∧ w ≤ I 115 0) ∧ r = -1) ∨ (((0 ≤ c ∧ c < I 115 2) ∧ 1 ≤ w ∧ w ≤ I 115 0) ∧ ((wh = 0 ∧ r = (mLp I c w (I 118 c).toNat).2.2) ∨ (wh = 1 ∧ mIdP I c w r) ∨ (wh = 2 ∧ r = mTo I (I 122 c) c w) ∨ ((wh < 0 ∨ 2 < wh) ∧ r = -1)))) ∧ mSw I I' ∧ R' = R)) := by
  refine MT.of (by decide +kernel) tX10_wrap_ok (Nat.le_of_ble_eq_true rfl) (fun hI0 => ?_)
  have hco := hch.1
  have hli := hch.2.1
  refine wp_ls (ls' := [some (zR 115), some (zI c), some (zI w), some (zI wh)]) rfl ?_
  refine wp_aload_n (t := 0) rfl rfl ?_
  refine wp_iload_n (t := 1) rfl rfl ?_
  refine wp_vi (ci := 10) (c_X10_isCore (d := d) hW hn hc ⟨by omega, by omega⟩) (t := 2) rfl kX10_212 rfl rfl (by omega) (by first | rfl | assumption) ⟨_, _, rfl⟩ (Nat.le_of_ble_eq_true rfl) ⟨Nat.le_refl _, Nat.le_refl _⟩ (fun r2 I2 R2 c2 => ?_)
  refine wp_canon (fun hI1 => ?_)
  obtain ⟨e2, zi2, zr2⟩ := c2
  have zi2 := zi2.symm
  subst zi2
  have zr2 := zr2.symm
  subst zr2
  have b2 : 0 ≤ r2 ∧ r2 ≤ 1 := by rw [e2]; split <;> omega
  have n2 : ¬ r2 = 0 → 0 ≤ c ∧ c < I 115 2 := fun h => by (rw [e2] at h; by_cases q : 0 ≤ c ∧ c < I 115 2; exact q; rw [if_neg q] at h; exact absurd rfl h)
  have m2 : r2 = 0 → ¬ (0 ≤ c ∧ c < I 115 2) := fun h q => by (rw [e2, if_pos q] at h; exact absurd h (by decide))
  refine wp_if_eq (t := 3) (tgt := 16) rfl (by decide) (by first | assumption | exact hI1 _ _ | exact hI0 _ _ | exact zin_and _ _ | (unfold zin; omega) | (unfold zin at *; omega)) (fun h5 => ?_) (fun h5 => ?_)
  · refine wp_iconst (t := 8) rfl ?_
    refine wp_ireturn (t := 9) rfl rfl ?_
    exact ⟨_, rfl, Or.inl ⟨fun q => m2 h5 q.1, rfl⟩, fun _ _ _ => rfl, rfl⟩
  · refine wp_aload_n (t := 4) rfl rfl ?_
    refine wp_iload_n (t := 5) rfl rfl ?_
    refine wp_vi (ci := 10) (c_X10_isWidth (d := d) hW hn hw) (t := 6) rfl kX10_222 rfl rfl (by omega) (by first | rfl | assumption) ⟨_, _, rfl⟩ (Nat.le_of_ble_eq_true rfl) ⟨Nat.le_refl _, Nat.le_refl _⟩ (fun r10 I10 R10 c10 => ?_)
    refine wp_canon (fun hI2 => ?_)
    obtain ⟨e10, zi10, zr10⟩ := c10
    have zi10 := zi10.symm
    subst zi10
    have zr10 := zr10.symm
    subst zr10
    have b10 : 0 ≤ r10 ∧ r10 ≤ 1 := by rw [e10]; split <;> omega
    have n10 : ¬ r10 = 0 → 1 ≤ w ∧ w ≤ I 115 0 := fun h => by (rw [e10] at h; by_cases q : 1 ≤ w ∧ w ≤ I 115 0; exact q; rw [if_neg q] at h; exact absurd rfl h)
    have m10 : r10 = 0 → ¬ (1 ≤ w ∧ w ≤ I 115 0) := fun h q => by (rw [e10, if_pos q] at h; exact absurd h (by decide))
    refine wp_if_ne (t := 7) (tgt := 18) rfl (by decide) (by first | assumption | exact hI2 _ _ | exact hI1 _ _ | exact hI0 _ _ | exact zin_and _ _ | (unfold zin; omega) | (unfold zin at *; omega)) (fun h13 => ?_) (fun h13 => ?_)
    · have cc := n2 (by assumption)
      have ww := n10 (by assumption)
      have hwc := mCh_wc hch cc.1 cc.2
      refine wp_iload_n (t := 10) rfl rfl ?_
      refine wp_if_ne (t := 11) (tgt := 31) rfl (by decide) (by first | assumption | exact hI2 _ _ | exact hI1 _ _ | exact hI0 _ _ | exact zin_and _ _ | (unfold zin; omega) | (unfold zin at *; omega)) (fun h19 => ?_) (fun h19 => ?_)
      · refine wp_iload_n (t := 17) rfl rfl ?_
        refine wp_iconst (t := 18) rfl ?_
        refine wp_icmp_ne (t := 19) (tgt := 45) rfl (by decide) (by first | assumption | exact hI2 _ _ | exact hI1 _ _ | exact hI0 _ _ | exact zin_and _ _ | (unfold zin; omega) | (unfold zin at *; omega)) (by first | assumption | exact hI2 _ _ | exact hI1 _ _ | exact hI0 _ _ | exact zin_and _ _ | (unfold zin; omega) | (unfold zin at *; omega)) (fun h33 => ?_) (fun h33 => ?_)
        · refine wp_iload_n (t := 25) rfl rfl ?_
          refine wp_iconst (t := 26) rfl ?_
          refine wp_icmp_ne (t := 27) (tgt := 67) rfl (by decide) (by first | assumption | exact hI2 _ _ | exact hI1 _ _ | exact hI0 _ _ | exact zin_and _ _ | (unfold zin; omega) | (unfold zin at *; omega)) (by first | assumption | exact hI2 _ _ | exact hI1 _ _ | exact hI0 _ _ | exact zin_and _ _ | (unfold zin; omega) | (unfold zin at *; omega)) (fun h47 => ?_) (fun h47 => ?_)
          · refine wp_iconst (t := 39) rfl ?_
            refine wp_ireturn (t := 40) rfl rfl ?_
            exact ⟨_, rfl, Or.inr ⟨⟨cc, ww⟩, Or.inr (Or.inr (Or.inr ⟨by omega, rfl⟩))⟩, fun _ _ _ => rfl, rfl⟩
          · refine wp_aload_n (t := 28) rfl rfl ?_
            refine wp_aload_n (t := 29) rfl rfl ?_
            refine wp_getR (t := 30) (ji := 10) rfl fX10_28 rfl rfl (by omega) (by first | rfl | assumption) (by first | exact hW _ _ _ (by omega) rfl | assumption) ?_
            refine wp_iconst (t := 31) rfl ?_
            refine wp_iload_n (t := 32) rfl rfl ?_
            refine wp_iadd (t := 33) rfl ?_
            refine wp_iaload (t := 34) rfl (by omega) (by first | rfl | assumption) (by omega) (by omega) (by omega) ?_
            rw [Int.zero_add]
            refine wp_iload_n (t := 35) rfl rfl ?_
            refine wp_iload_n (t := 36) rfl rfl ?_
            refine wp_vi (ci := 10) (c_X10_takesBy (d := d) hW hn ⟨by omega, by omega⟩ ⟨by omega, by omega⟩ hwc (hch.2.2.2.2 c cc.1 cc.2).1 (hI0 _ _)) (t := 37) rfl kX10_205 rfl rfl (by omega) (by first | rfl | assumption) ⟨_, _, rfl⟩ (Nat.le_of_ble_eq_true rfl) ⟨Nat.le_refl _, Nat.le_refl _⟩ (fun r61 I61 R61 c61 => ?_)
            refine wp_canon (fun hI3 => ?_)
            obtain ⟨⟨e61, b61, s61⟩, zr61⟩ := c61
            have zr61 := zr61.symm
            subst zr61
            refine wp_goto (t := 38) (tgt := 68) rfl (by decide) ?_
            refine wp_ireturn (t := 40) rfl rfl ?_
            exact ⟨_, rfl, Or.inr ⟨⟨cc, ww⟩, Or.inr (Or.inr (Or.inl ⟨by omega, e61⟩))⟩, s61, rfl⟩
        · refine wp_aload_n (t := 20) rfl rfl ?_
          refine wp_iload_n (t := 21) rfl rfl ?_
          refine wp_iload_n (t := 22) rfl rfl ?_
          refine wp_vi (ci := 10) (c_X10_idealOf (d := d + 1) hW hn ⟨by omega, by omega⟩ ⟨by omega, by omega⟩ hwc) (t := 23) rfl kX10_225 rfl rfl (by omega) (by first | rfl | assumption) ⟨_, _, rfl⟩ (Nat.le_of_ble_eq_true rfl) ⟨Nat.le_refl _, Nat.le_refl _⟩ (fun r39 I39 R39 c39 => ?_)
          refine wp_canon (fun hI3 => ?_)
          obtain ⟨⟨e39, f39⟩, zr39⟩ := c39
          have zr39 := zr39.symm
          subst zr39
          refine wp_goto (t := 24) (tgt := 68) rfl (by decide) ?_
          refine wp_ireturn (t := 40) rfl rfl ?_
          exact ⟨_, rfl, Or.inr ⟨⟨cc, ww⟩, Or.inr (Or.inl ⟨by omega, e39⟩)⟩, fun b b1 _ => f39 b b1, rfl⟩
      · refine wp_aload_n (t := 12) rfl rfl ?_
        refine wp_iload_n (t := 13) rfl rfl ?_
        refine wp_iload_n (t := 14) rfl rfl ?_
        refine wp_vi (ci := 10) (c_X10_wrapOf (d := d + 1) hW hn ⟨by omega, by omega⟩ ⟨by omega, by omega⟩ hwc) (t := 15) rfl kX10_201 rfl rfl (by omega) (by first | rfl | assumption) ⟨_, _, rfl⟩ (Nat.le_of_ble_eq_true rfl) ⟨Nat.le_refl _, Nat.le_refl _⟩ (fun r25 I25 R25 c25 => ?_)
        refine wp_canon (fun hI3 => ?_)
        obtain ⟨⟨e25, b25, s25, l25⟩, zr25⟩ := c25
        have zr25 := zr25.symm
        subst zr25
        refine wp_goto (t := 16) (tgt := 68) rfl (by decide) ?_
        refine wp_ireturn (t := 40) rfl rfl ?_
        exact ⟨_, rfl, Or.inr ⟨⟨cc, ww⟩, Or.inl ⟨by omega, e25⟩⟩, s25, rfl⟩
    · refine wp_iconst (t := 8) rfl ?_
      refine wp_ireturn (t := 9) rfl rfl ?_
      exact ⟨_, rfl, Or.inl ⟨fun q => m10 (by omega) q.2, rfl⟩, fun _ _ _ => rfl, rfl⟩
set_option maxHeartbeats 4000000 in
set_option maxRecDepth 100000 in
theorem c_X10_line {G : zG} {d n : Nat} {I : zMem} {R : zRef} {c w i : Int} (hW : zWir n R) (hn : 143 ≤ n) (hch : mCh I) (hc : zin c) (hw : zin w) (hi : zin i) : MT G mX10_line (d + 2) 0 0 [zR 115, zI c, zI w, zI i] n I R (zP1 (fun r I' R' => r = (if ¬ ((0 ≤ c ∧ c < I 115 2) ∧ (1 ≤ w ∧ w ≤ I 115 0) ∧ 0 ≤ i) then -1 else if i < I 118 c then (mLp I c w (I 118 c).toNat).2.1 i else -4) ∧ mSw I I' ∧ R' = R)) := by
  refine MT.of (by decide +kernel) tX10_line_ok (Nat.le_of_ble_eq_true rfl) (fun hI0 => ?_)
  have hco := hch.1
  have hli := hch.2.1
  refine wp_ls (ls' := [some (zR 115), some (zI c), some (zI w), some (zI i), none]) rfl ?_
  refine wp_aload_n (t := 0) rfl rfl ?_
  refine wp_iload_n (t := 1) rfl rfl ?_
  refine wp_vi (ci := 10) (c_X10_isCore (d := d) hW hn hc ⟨by omega, by omega⟩) (t := 2) rfl kX10_212 rfl rfl (by omega) (by first | rfl | assumption) ⟨_, _, rfl⟩ (Nat.le_of_ble_eq_true rfl) ⟨Nat.le_refl _, Nat.le_refl _⟩ (fun r2 I2 R2 c2 => ?_)
  refine wp_canon (fun hI1 => ?_)
  obtain ⟨e2, zi2, zr2⟩ := c2
  have zi2 := zi2.symm
  subst zi2
  have zr2 := zr2.symm
  subst zr2
  have b2 : 0 ≤ r2 ∧ r2 ≤ 1 := by rw [e2]; split <;> omega
  have n2 : ¬ r2 = 0 → 0 ≤ c ∧ c < I 115 2 := fun h => by (rw [e2] at h; by_cases q : 0 ≤ c ∧ c < I 115 2; exact q; rw [if_neg q] at h; exact absurd rfl h)
  have m2 : r2 = 0 → ¬ (0 ≤ c ∧ c < I 115 2) := fun h q => by (rw [e2, if_pos q] at h; exact absurd h (by decide))
  refine wp_if_eq (t := 3) (tgt := 20) rfl (by decide) (by first | assumption | exact hI1 _ _ | exact hI0 _ _ | exact zin_and _ _ | (unfold zin; omega) | (unfold zin at *; omega)) (fun h5 => ?_) (fun h5 => ?_)
  · refine wp_iconst (t := 10) rfl ?_
    refine wp_ireturn (t := 11) rfl rfl ?_
    exact ⟨_, rfl, (if_pos (fun q => m2 h5 q.1)).symm, fun _ _ _ => rfl, rfl⟩
  · refine wp_aload_n (t := 4) rfl rfl ?_
    refine wp_iload_n (t := 5) rfl rfl ?_
    refine wp_vi (ci := 10) (c_X10_isWidth (d := d) hW hn hw) (t := 6) rfl kX10_222 rfl rfl (by omega) (by first | rfl | assumption) ⟨_, _, rfl⟩ (Nat.le_of_ble_eq_true rfl) ⟨Nat.le_refl _, Nat.le_refl _⟩ (fun r10 I10 R10 c10 => ?_)
    refine wp_canon (fun hI2 => ?_)
    obtain ⟨e10, zi10, zr10⟩ := c10
    have zi10 := zi10.symm
    subst zi10
    have zr10 := zr10.symm
    subst zr10
    have b10 : 0 ≤ r10 ∧ r10 ≤ 1 := by rw [e10]; split <;> omega
    have n10 : ¬ r10 = 0 → 1 ≤ w ∧ w ≤ I 115 0 := fun h => by (rw [e10] at h; by_cases q : 1 ≤ w ∧ w ≤ I 115 0; exact q; rw [if_neg q] at h; exact absurd rfl h)
    have m10 : r10 = 0 → ¬ (1 ≤ w ∧ w ≤ I 115 0) := fun h q => by (rw [e10, if_pos q] at h; exact absurd h (by decide))
    refine wp_if_eq (t := 7) (tgt := 20) rfl (by decide) (by first | assumption | exact hI2 _ _ | exact hI1 _ _ | exact hI0 _ _ | exact zin_and _ _ | (unfold zin; omega) | (unfold zin at *; omega)) (fun h13 => ?_) (fun h13 => ?_)
    · refine wp_iconst (t := 10) rfl ?_
      refine wp_ireturn (t := 11) rfl rfl ?_
      exact ⟨_, rfl, (if_pos (fun q => m10 h13 q.2.1)).symm, fun _ _ _ => rfl, rfl⟩
    · refine wp_iload_n (t := 8) rfl rfl ?_
      refine wp_if_ge (t := 9) (tgt := 22) rfl (by decide) (by first | assumption | exact hI2 _ _ | exact hI1 _ _ | exact hI0 _ _ | exact zin_and _ _ | (unfold zin; omega) | (unfold zin at *; omega)) (fun h17 => ?_) (fun h17 => ?_)
      · have cc := n2 (by assumption)
        have ww := n10 (by assumption)
        have hwc := mCh_wc hch cc.1 cc.2
        refine wp_aload_n (t := 12) rfl rfl ?_
        refine wp_iload_n (t := 13) rfl rfl ?_
        refine wp_iload_n (t := 14) rfl rfl ?_
        refine wp_vi (ci := 10) (c_X10_wrapOf (d := d + 1) hW hn ⟨by omega, by omega⟩ ⟨by omega, by omega⟩ hwc) (t := 15) rfl kX10_201 rfl rfl (by omega) (by first | rfl | assumption) ⟨_, _, rfl⟩ (Nat.le_of_ble_eq_true rfl) ⟨Nat.le_refl _, Nat.le_refl _⟩ (fun r25 I25 R25 c25 => ?_)
        refine wp_canon (fun hI3 => ?_)
        obtain ⟨⟨e25, b25, s25, l25⟩, zr25⟩ := c25
        have zr25 := zr25.symm
        subst zr25
        have e118 : I25 118 = I 118 := s25 118 (by decide) (by decide)
        have cm := hwc.1
        refine wp_istore (t := 16) rfl (by decide) rfl ?_
        refine wp_iload_n (t := 17) rfl rfl ?_
        refine wp_aload_n (t := 18) rfl rfl ?_
        refine wp_getR (t := 19) (ji := 6) rfl fX10_16 rfl rfl (by omega) (by first | rfl | assumption) (by first | exact hW _ _ _ (by omega) rfl | assumption) ?_
        refine wp_iload_n (t := 20) rfl rfl ?_
        refine wp_iaload (t := 21) rfl (by omega) (by first | rfl | assumption) (by omega) (by omega) (by omega) ?_
        rw [e118]
        refine wp_icmp_ge (t := 22) (tgt := 54) rfl (by decide) (by first | assumption | exact hI3 _ _ | exact hI2 _ _ | exact hI1 _ _ | exact hI0 _ _ | exact zin_and _ _ | (unfold zin; omega) | (unfold zin at *; omega)) (by first | assumption | exact hI3 _ _ | exact hI2 _ _ | exact hI1 _ _ | exact hI0 _ _ | exact zin_and _ _ | (unfold zin; omega) | (unfold zin at *; omega)) (fun h37 => ?_) (fun h37 => ?_)
        · refine wp_bipush (t := 30) rfl (by decide) ?_
          refine wp_ireturn (t := 31) rfl rfl ?_
          exact ⟨_, rfl, by rw [if_neg (fun q => q ⟨cc, ww, by omega⟩), if_neg (by omega)], s25, rfl⟩
        · refine wp_iload (t := 23) rfl rfl ?_
          refine wp_if_le (t := 24) (tgt := 54) rfl (by decide) (by first | assumption | exact hI3 _ _ | exact hI2 _ _ | exact hI1 _ _ | exact hI0 _ _ | exact zin_and _ _ | (unfold zin; omega) | (unfold zin at *; omega)) (fun h42 => ?_) (fun h42 => ?_)
          · refine wp_bipush (t := 30) rfl (by decide) ?_
            refine wp_ireturn (t := 31) rfl rfl ?_
            exact absurd h42 (by omega)
          · refine wp_aload_n (t := 25) rfl rfl ?_
            refine wp_getR (t := 26) (ji := 35) rfl fX10_70 rfl rfl (by omega) (by first | rfl | assumption) (by first | exact hW _ _ _ (by omega) rfl | assumption) ?_
            refine wp_iload_n (t := 27) rfl rfl ?_
            refine wp_iaload (t := 28) rfl (by omega) (by first | rfl | assumption) (by omega) (by omega) (by omega) ?_
            rw [l25 i (by omega) (by omega)]
            refine wp_goto (t := 29) (tgt := 56) rfl (by decide) ?_
            refine wp_ireturn (t := 31) rfl rfl ?_
            exact ⟨_, rfl, by rw [if_neg (fun q => q ⟨cc, ww, by omega⟩), if_pos (by omega)], s25, rfl⟩
      · refine wp_iconst (t := 10) rfl ?_
        refine wp_ireturn (t := 11) rfl rfl ?_
        exact ⟨_, rfl, (if_pos (fun q => by omega)).symm, fun _ _ _ => rfl, rfl⟩
set_option maxHeartbeats 4000000 in
set_option maxRecDepth 100000 in
theorem c_X10_why {G : zG} {d n : Nat} {I : zMem} {R : zRef} {i : Int} (hW : zWir n R) (hn : 143 ≤ n) (hi : zin i) (hm : 0 ≤ I 115 18 ∧ I 115 18 ≤ 4) : MT G mX10_why d 0 0 [zR 115, zI i] n I R (zP1 (fun r I' R' => r = (if i < -1 then -1 else if i = -1 then I 115 18 else if i < I 115 18 then I 126 i else -4) ∧ I' = I ∧ R' = R)) := by
  refine MT.of (by decide +kernel) tX10_why_ok (Nat.le_of_ble_eq_true rfl) (fun hI0 => ?_)
  refine wp_ls (ls' := [some (zR 115), some (zI i)]) rfl ?_
  refine wp_iload_n (t := 0) rfl rfl ?_
  refine wp_iconst (t := 1) rfl ?_
  refine wp_icmp_ge (t := 2) (tgt := 7) rfl (by decide) (by first | assumption | exact hI0 _ _ | exact zin_and _ _ | (unfold zin; omega) | (unfold zin at *; omega)) (by first | assumption | exact hI0 _ _ | exact zin_and _ _ | (unfold zin; omega) | (unfold zin at *; omega)) (fun h2 => ?_) (fun h2 => ?_)
  · refine wp_iload_n (t := 5) rfl rfl ?_
    refine wp_if_ge (t := 6) (tgt := 18) rfl (by decide) (by first | assumption | exact hI0 _ _ | exact zin_and _ _ | (unfold zin; omega) | (unfold zin at *; omega)) (fun h8 => ?_) (fun h8 => ?_)
    · refine wp_iload_n (t := 10) rfl rfl ?_
      refine wp_aload_n (t := 11) rfl rfl ?_
      refine wp_getI (t := 12) (ji := 18) rfl fX10_197 rfl rfl (by omega) (by first | rfl | assumption) ?_
      refine wp_icmp_ge (t := 13) (tgt := 35) rfl (by decide) (by first | assumption | exact hI0 _ _ | exact zin_and _ _ | (unfold zin; omega) | (unfold zin at *; omega)) (by first | assumption | exact hI0 _ _ | exact zin_and _ _ | (unfold zin; omega) | (unfold zin at *; omega)) (fun h23 => ?_) (fun h23 => ?_)
      · refine wp_bipush (t := 19) rfl (by decide) ?_
        refine wp_ireturn (t := 20) rfl rfl ?_
        exact ⟨_, rfl, by rw [if_neg (by omega)]; first | rw [if_pos (by omega)] | rw [if_neg (by omega), if_pos (by omega)] | rw [if_neg (by omega), if_neg (by omega)], rfl, rfl⟩
      · refine wp_aload_n (t := 14) rfl rfl ?_
        refine wp_getR (t := 15) (ji := 17) rfl fX10_40 rfl rfl (by omega) (by first | rfl | assumption) (by first | exact hW _ _ _ (by omega) rfl | assumption) ?_
        refine wp_iload_n (t := 16) rfl rfl ?_
        refine wp_iaload (t := 17) rfl (by omega) (by first | rfl | assumption) (by omega) (by omega) (by omega) ?_
        refine wp_goto (t := 18) (tgt := 37) rfl (by decide) ?_
        refine wp_ireturn (t := 20) rfl rfl ?_
        exact ⟨_, rfl, by rw [if_neg (by omega)]; first | rw [if_pos (by omega)] | rw [if_neg (by omega), if_pos (by omega)] | rw [if_neg (by omega), if_neg (by omega)], rfl, rfl⟩
    · refine wp_aload_n (t := 7) rfl rfl ?_
      refine wp_getI (t := 8) (ji := 18) rfl fX10_197 rfl rfl (by omega) (by first | rfl | assumption) ?_
      refine wp_goto (t := 9) (tgt := 37) rfl (by decide) ?_
      refine wp_ireturn (t := 20) rfl rfl ?_
      exact ⟨_, rfl, by rw [if_neg (by omega)]; first | rw [if_pos (by omega)] | rw [if_neg (by omega), if_pos (by omega)] | rw [if_neg (by omega), if_neg (by omega)], rfl, rfl⟩
  · refine wp_iconst (t := 3) rfl ?_
    refine wp_ireturn (t := 4) rfl rfl ?_
    exact ⟨_, rfl, (if_pos (by omega)).symm, rfl, rfl⟩
def mSoonP (I : zMem) (c w r : Int) (I' : zMem) : Prop := (¬ ((0 ≤ c ∧ c < I 115 2) ∧ 1 ≤ w ∧ w ≤ I 115 0) ∧ r = -1 ∧ I' = I) ∨ (((0 ≤ c ∧ c < I 115 2) ∧ 1 ≤ w ∧ w ≤ I 115 0) ∧ ∃ K : zMem, mSt I K ∧ mTaken K ∧ mSm K I' ∧ r = if 0 < I 122 (6 + c) then -4 else sSoon (mS K (-4)) c w 2000000)
theorem mSt_Ch {I J : zMem} (h : mSt I J) (hc : mCh I) : mCh J := by
  unfold mCh at hc ⊢
  rw [h 115 (by decide) (by decide) (by decide), h 116 (by decide) (by decide) (by decide), h 117 (by decide) (by decide) (by decide), h 118 (by decide) (by decide) (by decide), h 119 (by decide) (by decide) (by decide)]
  exact hc
theorem mSt_Pl {I J : zMem} (h : mSt I J) (hc : mPl I) : mPl J := by
  unfold mPl at hc ⊢
  rw [h 115 (by decide) (by decide) (by decide), h 122 (by decide) (by decide) (by decide)]
  exact hc
set_option maxHeartbeats 4000000 in
set_option maxRecDepth 100000 in
theorem c_X10_soonestPut {G : zG} {d n : Nat} {I : zMem} {R : zRef} {wo c w : Int} (hW : zWir n R) (hn : 143 ≤ n) (hch : mCh I) (hc : 0 ≤ c ∧ c < I 115 2) (hput : 0 < I 122 (6 + c)) : MT G mX10_soonestOf (d + 4) 0 0 [zR 115, zI c, zI w, zI wo] n I R (zP1 (fun r I' R' => r = -4 ∧ I' = I ∧ R' = R)) := by
  refine MT.of (by decide +kernel) tX10_soonestOf_ok (Nat.le_of_ble_eq_true rfl) (fun hI0 => ?_)
  have hco := hch.1
  refine wp_ls (ls' := [some (zR 115), some (zI c), some (zI w), some (zI wo), none, none, none]) rfl ?_
  refine wp_bipush (t := 0) rfl (by decide) ?_
  refine wp_istore (t := 1) rfl (by decide) rfl ?_
  refine wp_iconst (t := 2) rfl ?_
  refine wp_istore (t := 3) rfl (by decide) rfl ?_
  refine wp_iload (t := 4) rfl rfl ?_
  refine wp_aload_n (t := 5) rfl rfl ?_
  refine wp_getI (t := 6) (ji := 2) rfl fX10_115 rfl rfl (by omega) (by first | rfl | assumption) ?_
  refine wp_icmp_ge (t := 7) (tgt := 99) rfl (by decide) (by first | assumption | exact hI0 _ _ | exact zin_and _ _ | (unfold zin; omega) | (unfold zin at *; omega)) (by first | assumption | exact hI0 _ _ | exact zin_and _ _ | (unfold zin; omega) | (unfold zin at *; omega)) (fun h13 => ?_) (fun h13 => ?_)
  · refine wp_iload (t := 46) rfl rfl ?_
    refine wp_ireturn (t := 47) rfl rfl ?_
    exact ⟨_, rfl, rfl, rfl, rfl⟩
  · refine wp_aload_n (t := 8) rfl rfl ?_
    refine wp_iload_n (t := 9) rfl rfl ?_
    refine wp_vi (ci := 10) (c_X10_isPut (d := d + 3) hW hn ⟨by omega, by omega⟩) (t := 10) rfl kX10_215 rfl rfl (by omega) (by first | rfl | assumption) ⟨_, _, rfl⟩ (Nat.le_of_ble_eq_true rfl) ⟨Nat.le_refl _, Nat.le_refl _⟩ (fun r18 I18 R18 c18 => ?_)
    refine wp_canon (fun hI1 => ?_)
    obtain ⟨e18, zi18, zr18⟩ := c18
    have zi18 := zi18.symm
    subst zi18
    have zr18 := zr18.symm
    subst zr18
    have b18 : 0 ≤ r18 ∧ r18 ≤ 1 := by rw [e18]; split <;> omega
    have n18 : ¬ r18 = 0 → 0 < I 122 (6 + c) := fun h => by (rw [e18] at h; by_cases q : 0 < I 122 (6 + c); exact q; rw [if_neg q] at h; exact absurd rfl h)
    have m18 : r18 = 0 → ¬ (0 < I 122 (6 + c)) := fun h q => by (rw [e18, if_pos q] at h; exact absurd h (by decide))
    refine wp_if_ne (t := 11) (tgt := 99) rfl (by decide) (by first | assumption | exact hI1 _ _ | exact hI0 _ _ | exact zin_and _ _ | (unfold zin; omega) | (unfold zin at *; omega)) (fun h21 => ?_) (fun h21 => ?_)
    · refine wp_iload (t := 46) rfl rfl ?_
      refine wp_ireturn (t := 47) rfl rfl ?_
      exact ⟨_, rfl, rfl, rfl, rfl⟩
    · exact absurd hput (m18 (by omega))
set_option maxHeartbeats 4000000 in
set_option maxRecDepth 100000 in
theorem c_X10_soonest {G : zG} {d n : Nat} {I : zMem} {R : zRef} {c w : Int} (hW : zWir n R) (hn : 143 ≤ n) (hch : mCh I) (hpl : mPl I) (hc : zin c) (hw : zin w) : MT G mX10_soonest (d + 5) 0 0 [zR 115, zI c, zI w] n I R (zP1 (fun r I' R' => mSoonP I c w r I' ∧ R' = R)) := by
  refine MT.of (by decide +kernel) tX10_soonest_ok (Nat.le_of_ble_eq_true rfl) (fun hI0 => ?_)
  have hco := hch.1
  refine wp_ls (ls' := [some (zR 115), some (zI c), some (zI w)]) rfl ?_
  refine wp_aload_n (t := 0) rfl rfl ?_
  refine wp_iload_n (t := 1) rfl rfl ?_
  refine wp_vi (ci := 10) (c_X10_isCore (d := d + 3) hW hn hc ⟨by omega, by omega⟩) (t := 2) rfl kX10_212 rfl rfl (by omega) (by first | rfl | assumption) ⟨_, _, rfl⟩ (Nat.le_of_ble_eq_true rfl) ⟨Nat.le_refl _, Nat.le_refl _⟩ (fun r2 I2 R2 c2 => ?_)
  refine wp_canon (fun hI1 => ?_)
  obtain ⟨e2, zi2, zr2⟩ := c2
  have zi2 := zi2.symm
  subst zi2
  have zr2 := zr2.symm
  subst zr2
  have b2 : 0 ≤ r2 ∧ r2 ≤ 1 := by rw [e2]; split <;> omega
  have n2 : ¬ r2 = 0 → 0 ≤ c ∧ c < I 115 2 := fun h => by (rw [e2] at h; by_cases q : 0 ≤ c ∧ c < I 115 2; exact q; rw [if_neg q] at h; exact absurd rfl h)
  have m2 : r2 = 0 → ¬ (0 ≤ c ∧ c < I 115 2) := fun h q => by (rw [e2, if_pos q] at h; exact absurd h (by decide))
  refine wp_if_eq (t := 3) (tgt := 16) rfl (by decide) (by first | assumption | exact hI1 _ _ | exact hI0 _ _ | exact zin_and _ _ | (unfold zin; omega) | (unfold zin at *; omega)) (fun h5 => ?_) (fun h5 => ?_)
  · refine wp_iconst (t := 8) rfl ?_
    refine wp_ireturn (t := 9) rfl rfl ?_
    exact ⟨_, rfl, Or.inl ⟨fun q => m2 h5 q.1, rfl, rfl⟩, rfl⟩
  · refine wp_aload_n (t := 4) rfl rfl ?_
    refine wp_iload_n (t := 5) rfl rfl ?_
    refine wp_vi (ci := 10) (c_X10_isWidth (d := d + 3) hW hn hw) (t := 6) rfl kX10_222 rfl rfl (by omega) (by first | rfl | assumption) ⟨_, _, rfl⟩ (Nat.le_of_ble_eq_true rfl) ⟨Nat.le_refl _, Nat.le_refl _⟩ (fun r10 I10 R10 c10 => ?_)
    refine wp_canon (fun hI2 => ?_)
    obtain ⟨e10, zi10, zr10⟩ := c10
    have zi10 := zi10.symm
    subst zi10
    have zr10 := zr10.symm
    subst zr10
    have b10 : 0 ≤ r10 ∧ r10 ≤ 1 := by rw [e10]; split <;> omega
    have n10 : ¬ r10 = 0 → 1 ≤ w ∧ w ≤ I 115 0 := fun h => by (rw [e10] at h; by_cases q : 1 ≤ w ∧ w ≤ I 115 0; exact q; rw [if_neg q] at h; exact absurd rfl h)
    have m10 : r10 = 0 → ¬ (1 ≤ w ∧ w ≤ I 115 0) := fun h q => by (rw [e10, if_pos q] at h; exact absurd h (by decide))
    refine wp_if_ne (t := 7) (tgt := 18) rfl (by decide) (by first | assumption | exact hI2 _ _ | exact hI1 _ _ | exact hI0 _ _ | exact zin_and _ _ | (unfold zin; omega) | (unfold zin at *; omega)) (fun h13 => ?_) (fun h13 => ?_)
    · refine wp_aload_n (t := 10) rfl rfl ?_
      refine wp_vv (ci := 10) (c_X10_layTakes (d := d + 2) hW hn hch) (t := 11) rfl kX10_209 rfl rfl (by omega) (by first | rfl | assumption) ⟨_, _, rfl⟩ (Nat.le_of_ble_eq_true rfl) ⟨Nat.le_refl _, Nat.le_refl _⟩ (fun I19 R19 c19 => ?_)
      refine wp_canon (fun hI3 => ?_)
      obtain ⟨⟨s19, t19⟩, zr19⟩ := c19
      have zr19 := zr19.symm
      subst zr19
      have cc := n2 (by assumption)
      have ww := n10 (by assumption)
      have i115 : I19 115 = I 115 := s19 115 (by decide) (by decide) (by decide)
      have i122 : I19 122 = I 122 := s19 122 (by decide) (by decide) (by decide)
      have hchJ := mSt_Ch s19 hch
      have hplJ := mSt_Pl s19 hpl
      have htkJ := mTaken_Tk hchJ t19
      have cs : MT G mX10_soonestOf (d + 4) 0 0 [zR 115, zI c, zI w, zI (-4)] n I19 R (zP1 (fun r I' R' => ((r = if 0 < I 122 (6 + c) then -4 else sSoon (mS I19 (-4)) c w 2000000) ∧ mSm I19 I') ∧ R' = R)) := by
        by_cases q : 0 < I 122 (6 + c)
        · refine MT.mono (c_X10_soonestPut (d := d) hW hn hchJ ⟨cc.1, by rw [i115]; exact cc.2⟩ (by rw [i122]; exact q)) ?_
          rintro r K R' ⟨x, rfl, rfl, rfl, rfl⟩
          exact ⟨_, rfl, ⟨(if_pos q).symm, mSm_refl _⟩, rfl⟩
        · refine MT.mono (c_X10_soonestOf (d := d) hW hn hchJ hplJ htkJ ⟨cc.1, by rw [i115]; exact cc.2⟩ ⟨ww.1, by rw [i115]; exact ww.2⟩ (by unfold zin; omega) (by rw [i122]; exact q)) ?_
          rintro r K R' ⟨x, rfl, ⟨g1, g2, g3⟩, rfl⟩
          exact ⟨_, rfl, ⟨by rw [if_neg q]; exact g1, g3⟩, rfl⟩
      refine wp_aload_n (t := 12) rfl rfl ?_
      refine wp_iload_n (t := 13) rfl rfl ?_
      refine wp_iload_n (t := 14) rfl rfl ?_
      refine wp_bipush (t := 15) rfl (by decide) ?_
      refine wp_vi (ci := 10) (cs) (t := 16) rfl kX10_264 rfl rfl (by omega) (by first | rfl | assumption) ⟨_, _, rfl⟩ (Nat.le_of_ble_eq_true rfl) ⟨Nat.le_refl _, Nat.le_refl _⟩ (fun r27 I27 R27 c27 => ?_)
      refine wp_canon (fun hI4 => ?_)
      obtain ⟨⟨e27, sm27⟩, zr27⟩ := c27
      have zr27 := zr27.symm
      subst zr27
      refine wp_ireturn (t := 17) rfl rfl ?_
      exact ⟨_, rfl, Or.inr ⟨⟨cc, ww⟩, I19, s19, t19, sm27, e27⟩, rfl⟩
    · refine wp_iconst (t := 8) rfl ?_
      refine wp_ireturn (t := 9) rfl rfl ?_
      exact ⟨_, rfl, Or.inl ⟨fun q => m10 (by omega) q.2, rfl, rfl⟩, rfl⟩
set_option maxHeartbeats 4000000 in
set_option maxRecDepth 100000 in
theorem c_X10_runs {G : zG} {d n : Nat} {I : zMem} {R : zRef} {t wh : Int} (hW : zWir n R) (hn : 143 ≤ n) (hch : mCh I) (hpl : mPl I) (ht : zin t) (hwh : zin wh) : MT G mX10_runs (d + 3) 0 0 [zR 115, zI t, zI wh] n I R (zP1 (fun r I' R' => ((¬ ((0 ≤ t ∧ t ≤ 99999) ∧ 0 ≤ wh ∧ wh ≤ 2) ∧ r = -1 ∧ I' = I) ∨ (((0 ≤ t ∧ t ≤ 99999) ∧ 0 ≤ wh ∧ wh ≤ 2) ∧ mSt I I' ∧ mTaken I' ∧ r = sUse (mS I' (-4)) wh t)) ∧ R' = R)) := by
  refine MT.of (by decide +kernel) tX10_runs_ok (Nat.le_of_ble_eq_true rfl) (fun hI0 => ?_)
  refine wp_ls (ls' := [some (zR 115), some (zI t), some (zI wh)]) rfl ?_
  refine wp_iload_n (t := 0) rfl rfl ?_
  refine wp_i2l (t := 1) rfl (by first | assumption | exact hI0 _ _ | exact zin_and _ _ | (unfold zin; omega) | (unfold zin at *; omega)) ?_
  refine wp_lconst 0 (t := 2) rfl (by decide) ?_
  refine wp_ldc2 (99999) (t := 3) rfl (wsL_law_r27_l (List.mem_of_getElem? (i := 1) rfl)) (by decide) ?_
  refine wp_si (c_X10_in (d := d + 2) (zin_long ht) (by unfold zinL; omega) (by unfold zinL; omega)) (t := 4) rfl kX10_124 rfl rfl (Nat.le_of_ble_eq_true rfl) ⟨Nat.le_refl _, Nat.le_refl _⟩ (fun r6 I6 R6 c6 => ?_)
  refine wp_canon (fun hI1 => ?_)
  obtain ⟨e6, zi6, zr6⟩ := c6
  have zi6 := zi6.symm
  subst zi6
  have zr6 := zr6.symm
  subst zr6
  have b6 : 0 ≤ r6 ∧ r6 ≤ 1 := by rw [e6]; split <;> omega
  have n6 : ¬ r6 = 0 → 0 ≤ t ∧ t ≤ 99999 := fun h => by (rw [e6] at h; by_cases q : 0 ≤ t ∧ t ≤ 99999; exact q; rw [if_neg q] at h; exact absurd rfl h)
  have m6 : r6 = 0 → ¬ (0 ≤ t ∧ t ≤ 99999) := fun h q => by (rw [e6, if_pos q] at h; exact absurd h (by decide))
  refine wp_if_eq (t := 5) (tgt := 24) rfl (by decide) (by first | assumption | exact hI1 _ _ | exact hI0 _ _ | exact zin_and _ _ | (unfold zin; omega) | (unfold zin at *; omega)) (fun h9 => ?_) (fun h9 => ?_)
  · refine wp_iconst (t := 12) rfl ?_
    refine wp_ireturn (t := 13) rfl rfl ?_
    exact ⟨_, rfl, Or.inl ⟨fun q => m6 h9 q.1, rfl, rfl⟩, rfl⟩
  · refine wp_iload_n (t := 6) rfl rfl ?_
    refine wp_i2l (t := 7) rfl (by first | assumption | exact hI1 _ _ | exact hI0 _ _ | exact zin_and _ _ | (unfold zin; omega) | (unfold zin at *; omega)) ?_
    refine wp_lconst 0 (t := 8) rfl (by decide) ?_
    refine wp_ldc2 (2) (t := 9) rfl (wsL_law_r18_l (List.mem_of_getElem? (i := 3) rfl)) (by decide) ?_
    refine wp_si (c_X10_in (d := d + 2) (zin_long hwh) (by unfold zinL; omega) (by unfold zinL; omega)) (t := 10) rfl kX10_124 rfl rfl (Nat.le_of_ble_eq_true rfl) ⟨Nat.le_refl _, Nat.le_refl _⟩ (fun r18 I18 R18 c18 => ?_)
    refine wp_canon (fun hI2 => ?_)
    obtain ⟨e18, zi18, zr18⟩ := c18
    have zi18 := zi18.symm
    subst zi18
    have zr18 := zr18.symm
    subst zr18
    have b18 : 0 ≤ r18 ∧ r18 ≤ 1 := by rw [e18]; split <;> omega
    have n18 : ¬ r18 = 0 → 0 ≤ wh ∧ wh ≤ 2 := fun h => by (rw [e18] at h; by_cases q : 0 ≤ wh ∧ wh ≤ 2; exact q; rw [if_neg q] at h; exact absurd rfl h)
    have m18 : r18 = 0 → ¬ (0 ≤ wh ∧ wh ≤ 2) := fun h q => by (rw [e18, if_pos q] at h; exact absurd h (by decide))
    refine wp_if_ne (t := 11) (tgt := 26) rfl (by decide) (by first | assumption | exact hI2 _ _ | exact hI1 _ _ | exact hI0 _ _ | exact zin_and _ _ | (unfold zin; omega) | (unfold zin at *; omega)) (fun h21 => ?_) (fun h21 => ?_)
    · refine wp_aload_n (t := 14) rfl rfl ?_
      refine wp_vv (ci := 10) (c_X10_layTakes (d := d) hW hn hch) (t := 15) rfl kX10_209 rfl rfl (by omega) (by first | rfl | assumption) ⟨_, _, rfl⟩ (Nat.le_of_ble_eq_true rfl) ⟨Nat.le_refl _, Nat.le_refl _⟩ (fun I27 R27 c27 => ?_)
      refine wp_canon (fun hI3 => ?_)
      obtain ⟨⟨s27, t27⟩, zr27⟩ := c27
      have zr27 := zr27.symm
      subst zr27
      have hchJ := mSt_Ch s27 hch
      refine wp_aload_n (t := 16) rfl rfl ?_
      refine wp_iload_n (t := 17) rfl rfl ?_
      refine wp_iload_n (t := 18) rfl rfl ?_
      refine wp_vi (ci := 10) (c_X10_runsIn (wo := -4) (d := d + 1) hW hn hchJ (mSt_Pl s27 hpl) (mTaken_Tk hchJ t27) hwh ht) (t := 19) rfl kX10_231 rfl rfl (by omega) (by first | rfl | assumption) ⟨_, _, rfl⟩ (Nat.le_of_ble_eq_true rfl) ⟨Nat.le_refl _, Nat.le_refl _⟩ (fun r33 I33 R33 c33 => ?_)
      refine wp_canon (fun hI4 => ?_)
      obtain ⟨e33, zi33, zr33⟩ := c33
      have zi33 := zi33.symm
      subst zi33
      have zr33 := zr33.symm
      subst zr33
      refine wp_ireturn (t := 20) rfl rfl ?_
      exact ⟨_, rfl, Or.inr ⟨⟨n6 h9, n18 h21⟩, s27, t27, e33⟩, rfl⟩
    · refine wp_iconst (t := 12) rfl ?_
      refine wp_ireturn (t := 13) rfl rfl ?_
      exact ⟨_, rfl, Or.inl ⟨fun q => m18 (by omega) q.2, rfl, rfl⟩, rfl⟩
theorem mBnd_in {I : zMem} {wo : Int} (hch : mCh I) (htk : mTk I) : (0 ≤ sArea (mS I wo) ∧ sArea (mS I wo) ≤ 1000000) ∧ (0 ≤ sPath (mS I wo) ∧ sPath (mS I wo) ≤ 1000000) ∧ (0 ≤ sDrawn (mS I wo) ∧ sDrawn (mS I wo) ≤ 1000000) := by
  have hco := hch.1
  have hli := hch.2.1
  have hpo := hch.2.2.1
  have hmin : ∀ c : Int, 0 ≤ c → c < I 115 2 → 0 ≤ sLeast (mS I wo) c ∧ sLeast (mS I wo) c ≤ 2234 := fun c c0 c1 => by
    have := mLeast_b (wo := wo) hch htk c0 c1
    omega
  refine ⟨?_, ?_, ?_⟩
  · have hsum := zsum_bounds (a := 0) (b := 17872) (n := (I 115 2).toNat) (f := fun c => zminf (fun w => w * I 137 (9 * c + w)) (I 115 0).toNat) (fun c c0 c1 => by
      have := zminf_b (f := fun w => w * I 137 (9 * c + w)) (A := 0) (B := 17872) (by omega) (by omega) (I 115 0).toNat (fun w w0 w1 => by
        have hT := htk c w c0 (by omega) w0 (by omega)
        exact zmulb (A := 8) (B := 2234) (by omega) (by omega) (by omega) hT.2)
      show 0 ≤ zminf (fun w => w * I 137 (9 * c + w)) (I 115 0).toNat ∧ zminf (fun w => w * I 137 (9 * c + w)) (I 115 0).toNat ≤ 17872
      omega)
    show 0 ≤ (zsum (fun c => zminf (fun w => w * I 137 (9 * c + w)) (I 115 0).toNat) (I 115 2).toNat + I 115 0 - 1) / I 115 0 ∧ (zsum (fun c => zminf (fun w => w * I 137 (9 * c + w)) (I 115 0).toNat) (I 115 2).toNat + I 115 0 - 1) / I 115 0 ≤ 1000000
    generalize zsum (fun c => zminf (fun w => w * I 137 (9 * c + w)) (I 115 0).toNat) (I 115 2).toNat = s at *
    refine ⟨Int.ediv_nonneg (by omega) (by omega), Int.ediv_le_of_le_mul (by omega) ?_⟩
    have : 1000000 * 1 ≤ 1000000 * I 115 0 := Int.mul_le_mul (Int.le_refl _) (by omega) (by omega) (by omega)
    omega
  · have hup := fun x => zup_b (ah := sA (mS I wo)) (le := sLeast (mS I wo)) (I 115 2).toNat (fun c c0 c1 => hmin c c0 (by omega)) x
    have := zmxf_b (P := fun _ => true) (v := zup (sA (mS I wo)) (sLeast (mS I wo)) (I 115 2).toNat) (B := 13404) (n := (I 115 2).toNat) (by omega) (fun i _ _ => by have := hup i; omega)
    show 0 ≤ zmxf (fun _ => true) (zup (sA (mS I wo)) (sLeast (mS I wo)) (I 115 2).toNat) (I 115 2).toNat ∧ zmxf (fun _ => true) (zup (sA (mS I wo)) (sLeast (mS I wo)) (I 115 2).toNat) (I 115 2).toNat ≤ 1000000
    omega
  · have hsum := zsum_bounds (a := 0) (b := 67020) (n := (I 115 2).toNat) (f := fun c => sLeast (mS I wo) c * I 117 c) (fun c c0 c1 => by
      have g := hmin c c0 (by omega)
      have g2 := (hch.2.2.2.2 c c0 (by omega)).2.1
      exact zmulb (A := 2234) (B := 30) g.1 g.2 (by omega) g2.2)
    show 0 ≤ (zsum (fun c => sLeast (mS I wo) c * I 117 c) (I 115 2).toNat + I 115 1 - 1) / I 115 1 ∧ (zsum (fun c => sLeast (mS I wo) c * I 117 c) (I 115 2).toNat + I 115 1 - 1) / I 115 1 ≤ 1000000
    generalize zsum (fun c => sLeast (mS I wo) c * I 117 c) (I 115 2).toNat = s at *
    refine ⟨Int.ediv_nonneg (by omega) (by omega), Int.ediv_le_of_le_mul (by omega) ?_⟩
    have : 1000000 * 1 ≤ 1000000 * I 115 1 := Int.mul_le_mul (Int.le_refl _) (by omega) (by omega) (by omega)
    omega
set_option maxHeartbeats 4000000 in
set_option maxRecDepth 100000 in
theorem c_X10_bound {G : zG} {d n : Nat} {I : zMem} {R : zRef} {wh : Int} (hW : zWir n R) (hn : 143 ≤ n) (hch : mCh I) (hwh : zin wh) : MT G mX10_bound (d + 3) 0 0 [zR 115, zI wh] n I R (zP1 (fun r I' R' => ((¬ (0 ≤ wh ∧ wh ≤ 3) ∧ r = -1 ∧ I' = I) ∨ ((0 ≤ wh ∧ wh ≤ 3) ∧ ∃ K : zMem, mSt I K ∧ mTaken K ∧ mUp K I' ∧ r = (if wh = 0 then sArea (mS K (-4)) else if wh = 1 then sPath (mS K (-4)) else if wh = 2 then sDrawn (mS K (-4)) else sGreat (mS K (-4))))) ∧ R' = R)) := by
  refine MT.of (by decide +kernel) tX10_bound_ok (Nat.le_of_ble_eq_true rfl) (fun hI0 => ?_)
  refine wp_ls (ls' := [some (zR 115), some (zI wh), none, none, none, none]) rfl ?_
  refine wp_iload_n (t := 0) rfl rfl ?_
  refine wp_i2l (t := 1) rfl (by first | assumption | exact hI0 _ _ | exact zin_and _ _ | (unfold zin; omega) | (unfold zin at *; omega)) ?_
  refine wp_lconst 0 (t := 2) rfl (by decide) ?_
  refine wp_ldc2 (3) (t := 3) rfl (wsL_law_r31_l (List.mem_of_getElem? (i := 7) rfl)) (by decide) ?_
  refine wp_si (c_X10_in (d := d + 2) (zin_long hwh) (by unfold zinL; omega) (by unfold zinL; omega)) (t := 4) rfl kX10_124 rfl rfl (Nat.le_of_ble_eq_true rfl) ⟨Nat.le_refl _, Nat.le_refl _⟩ (fun r6 I6 R6 c6 => ?_)
  refine wp_canon (fun hI1 => ?_)
  obtain ⟨e6, zi6, zr6⟩ := c6
  have zi6 := zi6.symm
  subst zi6
  have zr6 := zr6.symm
  subst zr6
  have b6 : 0 ≤ r6 ∧ r6 ≤ 1 := by rw [e6]; split <;> omega
  have n6 : ¬ r6 = 0 → 0 ≤ wh ∧ wh ≤ 3 := fun h => by (rw [e6] at h; by_cases q : 0 ≤ wh ∧ wh ≤ 3; exact q; rw [if_neg q] at h; exact absurd rfl h)
  have m6 : r6 = 0 → ¬ (0 ≤ wh ∧ wh ≤ 3) := fun h q => by (rw [e6, if_pos q] at h; exact absurd h (by decide))
  refine wp_if_ne (t := 5) (tgt := 14) rfl (by decide) (by first | assumption | exact hI1 _ _ | exact hI0 _ _ | exact zin_and _ _ | (unfold zin; omega) | (unfold zin at *; omega)) (fun h9 => ?_) (fun h9 => ?_)
  · refine wp_aload_n (t := 8) rfl rfl ?_
    refine wp_vv (ci := 10) (c_X10_layTakes (d := d) hW hn hch) (t := 9) rfl kX10_209 rfl rfl (by omega) (by first | rfl | assumption) ⟨_, _, rfl⟩ (Nat.le_of_ble_eq_true rfl) ⟨Nat.le_refl _, Nat.le_refl _⟩ (fun I15 R15 c15 => ?_)
    refine wp_canon (fun hI2 => ?_)
    obtain ⟨⟨s15, t15⟩, zr15⟩ := c15
    have zr15 := zr15.symm
    subst zr15
    have hchJ := mSt_Ch s15 hch
    have htkJ := mTaken_Tk hchJ t15
    have bd := mBnd_in (wo := -4) hchJ htkJ
    refine wp_aload_n (t := 10) rfl rfl ?_
    refine wp_vi (ci := 10) (c_X10_areaOf (wo := -4) (d := d + 1) hW hn hchJ htkJ) (t := 11) rfl kX10_288 rfl rfl (by omega) (by first | rfl | assumption) ⟨_, _, rfl⟩ (Nat.le_of_ble_eq_true rfl) ⟨Nat.le_refl _, Nat.le_refl _⟩ (fun r19 I19 R19 c19 => ?_)
    refine wp_canon (fun hI3 => ?_)
    obtain ⟨e19, zi19, zr19⟩ := c19
    have zi19 := zi19.symm
    subst zi19
    have zr19 := zr19.symm
    subst zr19
    refine wp_istore_n (t := 12) rfl (by decide) rfl ?_
    refine wp_aload_n (t := 13) rfl rfl ?_
    refine wp_vi (ci := 10) (c_X10_pathOf (d := d + 1) hW hn hchJ htkJ) (t := 14) rfl kX10_291 rfl rfl (by omega) (by first | rfl | assumption) ⟨_, _, rfl⟩ (Nat.le_of_ble_eq_true rfl) ⟨Nat.le_refl _, Nat.le_refl _⟩ (fun r24 I24 R24 c24 => ?_)
    refine wp_canon (fun hI4 => ?_)
    obtain ⟨⟨e24, u24⟩, zr24⟩ := c24
    have zr24 := zr24.symm
    subst zr24
    have hch2 : mCh I24 := by unfold mCh at hchJ ⊢; rw [u24 115 (by decide), u24 116 (by decide), u24 117 (by decide), u24 118 (by decide), u24 119 (by decide)]; exact hchJ
    have htk2 : mTk I24 := by unfold mTk at htkJ ⊢; rw [u24 115 (by decide), u24 137 (by decide)]; exact htkJ
    have eS : mS I24 (-4) = mS I15 (-4) := mS_ext (fun j _ _ => by rw [u24 115 (by decide)]) (u24 117 (by decide)) (u24 120 (by decide)) (u24 121 (by decide)) (u24 122 (by decide)) (u24 137 (by decide))
    refine wp_istore_n (t := 15) rfl (by decide) rfl ?_
    refine wp_aload_n (t := 16) rfl rfl ?_
    refine wp_vi (ci := 10) (c_X10_drawnOf (wo := -4) (d := d + 1) hW hn hch2 htk2) (t := 17) rfl kX10_294 rfl rfl (by omega) (by first | rfl | assumption) ⟨_, _, rfl⟩ (Nat.le_of_ble_eq_true rfl) ⟨Nat.le_refl _, Nat.le_refl _⟩ (fun r29 I29 R29 c29 => ?_)
    refine wp_canon (fun hI5 => ?_)
    obtain ⟨e29, zi29, zr29⟩ := c29
    have zi29 := zi29.symm
    subst zi29
    have zr29 := zr29.symm
    subst zr29
    rw [eS] at e29
    have eg : sGreat (mS I15 (-4)) = max (max r19 r24) r29 := by rw [e19, e24, e29]; rfl
    rw [← e19, ← e24, ← e29] at bd
    refine wp_istore (t := 18) rfl (by decide) rfl ?_
    refine wp_iload_n (t := 19) rfl rfl ?_
    refine wp_iload_n (t := 20) rfl rfl ?_
    refine wp_icmp_le (t := 21) (tgt := 43) rfl (by decide) (by unfold zin; omega) (by unfold zin; omega) (fun h36 => ?_) (fun h36 => ?_)
    · refine wp_iload_n (t := 24) rfl rfl ?_
      refine wp_istore (t := 25) rfl (by decide) rfl ?_
      refine wp_iload_n (t := 26) rfl rfl ?_
      refine wp_if_ne (t := 27) (tgt := 54) rfl (by decide) (by first | assumption | exact hI5 _ _ | exact hI4 _ _ | exact hI3 _ _ | exact hI2 _ _ | exact hI1 _ _ | exact hI0 _ _ | exact zin_and _ _ | (unfold zin; omega) | (unfold zin at *; omega)) (fun h47 => ?_) (fun h47 => ?_)
      · refine wp_iload_n (t := 30) rfl rfl ?_
        refine wp_iconst (t := 31) rfl ?_
        refine wp_icmp_ne (t := 32) (tgt := 63) rfl (by decide) (by first | assumption | exact hI5 _ _ | exact hI4 _ _ | exact hI3 _ _ | exact hI2 _ _ | exact hI1 _ _ | exact hI0 _ _ | exact zin_and _ _ | (unfold zin; omega) | (unfold zin at *; omega)) (by first | assumption | exact hI5 _ _ | exact hI4 _ _ | exact hI3 _ _ | exact hI2 _ _ | exact hI1 _ _ | exact hI0 _ _ | exact zin_and _ _ | (unfold zin; omega) | (unfold zin at *; omega)) (fun h56 => ?_) (fun h56 => ?_)
        · refine wp_iload_n (t := 35) rfl rfl ?_
          refine wp_iconst (t := 36) rfl ?_
          refine wp_icmp_ne (t := 37) (tgt := 73) rfl (by decide) (by first | assumption | exact hI5 _ _ | exact hI4 _ _ | exact hI3 _ _ | exact hI2 _ _ | exact hI1 _ _ | exact hI0 _ _ | exact zin_and _ _ | (unfold zin; omega) | (unfold zin at *; omega)) (by first | assumption | exact hI5 _ _ | exact hI4 _ _ | exact hI3 _ _ | exact hI2 _ _ | exact hI1 _ _ | exact hI0 _ _ | exact zin_and _ _ | (unfold zin; omega) | (unfold zin at *; omega)) (fun h65 => ?_) (fun h65 => ?_)
          · refine wp_iload (t := 40) rfl rfl ?_
            refine wp_iload (t := 41) rfl rfl ?_
            refine wp_icmp_le (t := 42) (tgt := 85) rfl (by decide) (by unfold zin; omega) (by unfold zin; omega) (fun h77 => ?_) (fun h77 => ?_)
            · refine wp_iload (t := 45) rfl rfl ?_
              refine wp_ireturn (t := 46) rfl rfl ?_
              refine ⟨_, rfl, Or.inr ⟨n6 h9, I15, s15, t15, u24, ?_⟩, rfl⟩
              rw [← e19, ← e24, ← e29, eg]
              first
                | rw [if_pos (by omega)]
                | rw [if_neg (by omega), if_pos (by omega)]
                | rw [if_neg (by omega), if_neg (by omega), if_pos (by omega)]
                | (rw [if_neg (by omega), if_neg (by omega), if_neg (by omega)]; omega)
            · refine wp_iload (t := 43) rfl rfl ?_
              refine wp_goto (t := 44) (tgt := 87) rfl (by decide) ?_
              refine wp_ireturn (t := 46) rfl rfl ?_
              refine ⟨_, rfl, Or.inr ⟨n6 h9, I15, s15, t15, u24, ?_⟩, rfl⟩
              rw [← e19, ← e24, ← e29, eg]
              first
                | rw [if_pos (by omega)]
                | rw [if_neg (by omega), if_pos (by omega)]
                | rw [if_neg (by omega), if_neg (by omega), if_pos (by omega)]
                | (rw [if_neg (by omega), if_neg (by omega), if_neg (by omega)]; omega)
          · refine wp_iload (t := 38) rfl rfl ?_
            refine wp_goto (t := 39) (tgt := 87) rfl (by decide) ?_
            refine wp_ireturn (t := 46) rfl rfl ?_
            refine ⟨_, rfl, Or.inr ⟨n6 h9, I15, s15, t15, u24, ?_⟩, rfl⟩
            rw [← e19, ← e24, ← e29, eg]
            first
              | rw [if_pos (by omega)]
              | rw [if_neg (by omega), if_pos (by omega)]
              | rw [if_neg (by omega), if_neg (by omega), if_pos (by omega)]
              | (rw [if_neg (by omega), if_neg (by omega), if_neg (by omega)]; omega)
        · refine wp_iload_n (t := 33) rfl rfl ?_
          refine wp_goto (t := 34) (tgt := 87) rfl (by decide) ?_
          refine wp_ireturn (t := 46) rfl rfl ?_
          refine ⟨_, rfl, Or.inr ⟨n6 h9, I15, s15, t15, u24, ?_⟩, rfl⟩
          rw [← e19, ← e24, ← e29, eg]
          first
            | rw [if_pos (by omega)]
            | rw [if_neg (by omega), if_pos (by omega)]
            | rw [if_neg (by omega), if_neg (by omega), if_pos (by omega)]
            | (rw [if_neg (by omega), if_neg (by omega), if_neg (by omega)]; omega)
      · refine wp_iload_n (t := 28) rfl rfl ?_
        refine wp_goto (t := 29) (tgt := 87) rfl (by decide) ?_
        refine wp_ireturn (t := 46) rfl rfl ?_
        refine ⟨_, rfl, Or.inr ⟨n6 h9, I15, s15, t15, u24, ?_⟩, rfl⟩
        rw [← e19, ← e24, ← e29, eg]
        first
          | rw [if_pos (by omega)]
          | rw [if_neg (by omega), if_pos (by omega)]
          | rw [if_neg (by omega), if_neg (by omega), if_pos (by omega)]
          | (rw [if_neg (by omega), if_neg (by omega), if_neg (by omega)]; omega)
    · refine wp_iload_n (t := 22) rfl rfl ?_
      refine wp_goto (t := 23) (tgt := 44) rfl (by decide) ?_
      refine wp_istore (t := 25) rfl (by decide) rfl ?_
      refine wp_iload_n (t := 26) rfl rfl ?_
      refine wp_if_ne (t := 27) (tgt := 54) rfl (by decide) (by first | assumption | exact hI5 _ _ | exact hI4 _ _ | exact hI3 _ _ | exact hI2 _ _ | exact hI1 _ _ | exact hI0 _ _ | exact zin_and _ _ | (unfold zin; omega) | (unfold zin at *; omega)) (fun h47 => ?_) (fun h47 => ?_)
      · refine wp_iload_n (t := 30) rfl rfl ?_
        refine wp_iconst (t := 31) rfl ?_
        refine wp_icmp_ne (t := 32) (tgt := 63) rfl (by decide) (by first | assumption | exact hI5 _ _ | exact hI4 _ _ | exact hI3 _ _ | exact hI2 _ _ | exact hI1 _ _ | exact hI0 _ _ | exact zin_and _ _ | (unfold zin; omega) | (unfold zin at *; omega)) (by first | assumption | exact hI5 _ _ | exact hI4 _ _ | exact hI3 _ _ | exact hI2 _ _ | exact hI1 _ _ | exact hI0 _ _ | exact zin_and _ _ | (unfold zin; omega) | (unfold zin at *; omega)) (fun h56 => ?_) (fun h56 => ?_)
        · refine wp_iload_n (t := 35) rfl rfl ?_
          refine wp_iconst (t := 36) rfl ?_
          refine wp_icmp_ne (t := 37) (tgt := 73) rfl (by decide) (by first | assumption | exact hI5 _ _ | exact hI4 _ _ | exact hI3 _ _ | exact hI2 _ _ | exact hI1 _ _ | exact hI0 _ _ | exact zin_and _ _ | (unfold zin; omega) | (unfold zin at *; omega)) (by first | assumption | exact hI5 _ _ | exact hI4 _ _ | exact hI3 _ _ | exact hI2 _ _ | exact hI1 _ _ | exact hI0 _ _ | exact zin_and _ _ | (unfold zin; omega) | (unfold zin at *; omega)) (fun h65 => ?_) (fun h65 => ?_)
          · refine wp_iload (t := 40) rfl rfl ?_
            refine wp_iload (t := 41) rfl rfl ?_
            refine wp_icmp_le (t := 42) (tgt := 85) rfl (by decide) (by unfold zin; omega) (by unfold zin; omega) (fun h77 => ?_) (fun h77 => ?_)
            · refine wp_iload (t := 45) rfl rfl ?_
              refine wp_ireturn (t := 46) rfl rfl ?_
              refine ⟨_, rfl, Or.inr ⟨n6 h9, I15, s15, t15, u24, ?_⟩, rfl⟩
              rw [← e19, ← e24, ← e29, eg]
              first
                | rw [if_pos (by omega)]
                | rw [if_neg (by omega), if_pos (by omega)]
                | rw [if_neg (by omega), if_neg (by omega), if_pos (by omega)]
                | (rw [if_neg (by omega), if_neg (by omega), if_neg (by omega)]; omega)
            · refine wp_iload (t := 43) rfl rfl ?_
              refine wp_goto (t := 44) (tgt := 87) rfl (by decide) ?_
              refine wp_ireturn (t := 46) rfl rfl ?_
              refine ⟨_, rfl, Or.inr ⟨n6 h9, I15, s15, t15, u24, ?_⟩, rfl⟩
              rw [← e19, ← e24, ← e29, eg]
              first
                | rw [if_pos (by omega)]
                | rw [if_neg (by omega), if_pos (by omega)]
                | rw [if_neg (by omega), if_neg (by omega), if_pos (by omega)]
                | (rw [if_neg (by omega), if_neg (by omega), if_neg (by omega)]; omega)
          · refine wp_iload (t := 38) rfl rfl ?_
            refine wp_goto (t := 39) (tgt := 87) rfl (by decide) ?_
            refine wp_ireturn (t := 46) rfl rfl ?_
            refine ⟨_, rfl, Or.inr ⟨n6 h9, I15, s15, t15, u24, ?_⟩, rfl⟩
            rw [← e19, ← e24, ← e29, eg]
            first
              | rw [if_pos (by omega)]
              | rw [if_neg (by omega), if_pos (by omega)]
              | rw [if_neg (by omega), if_neg (by omega), if_pos (by omega)]
              | (rw [if_neg (by omega), if_neg (by omega), if_neg (by omega)]; omega)
        · refine wp_iload_n (t := 33) rfl rfl ?_
          refine wp_goto (t := 34) (tgt := 87) rfl (by decide) ?_
          refine wp_ireturn (t := 46) rfl rfl ?_
          refine ⟨_, rfl, Or.inr ⟨n6 h9, I15, s15, t15, u24, ?_⟩, rfl⟩
          rw [← e19, ← e24, ← e29, eg]
          first
            | rw [if_pos (by omega)]
            | rw [if_neg (by omega), if_pos (by omega)]
            | rw [if_neg (by omega), if_neg (by omega), if_pos (by omega)]
            | (rw [if_neg (by omega), if_neg (by omega), if_neg (by omega)]; omega)
      · refine wp_iload_n (t := 28) rfl rfl ?_
        refine wp_goto (t := 29) (tgt := 87) rfl (by decide) ?_
        refine wp_ireturn (t := 46) rfl rfl ?_
        refine ⟨_, rfl, Or.inr ⟨n6 h9, I15, s15, t15, u24, ?_⟩, rfl⟩
        rw [← e19, ← e24, ← e29, eg]
        first
          | rw [if_pos (by omega)]
          | rw [if_neg (by omega), if_pos (by omega)]
          | rw [if_neg (by omega), if_neg (by omega), if_pos (by omega)]
          | (rw [if_neg (by omega), if_neg (by omega), if_neg (by omega)]; omega)
  · refine wp_iconst (t := 6) rfl ?_
    refine wp_ireturn (t := 7) rfl rfl ?_
    exact ⟨_, rfl, Or.inl ⟨m6 (by omega), rfl, rfl⟩, rfl⟩
set_option maxHeartbeats 4000000 in
set_option maxRecDepth 100000 in
theorem c_X10_forget {G : zG} {d n : Nat} {I : zMem} {R : zRef} (hW : zWir n R) (hn : 143 ≤ n) : MT G mX10_forget d 0 0 [zR 115] n I R (zP1 (fun r I' R' => (r = I 115 14 ∧ I' = zu I 115 14 0) ∧ R' = R)) := by
  refine MT.of (by decide +kernel) tX10_forget_ok (Nat.le_of_ble_eq_true rfl) (fun hI0 => ?_)
  refine wp_ls (ls' := [some (zR 115), none]) rfl ?_
  refine wp_aload_n (t := 0) rfl rfl ?_
  refine wp_getI (t := 1) (ji := 14) rfl fX10_191 rfl rfl (by omega) (by first | rfl | assumption) ?_
  refine wp_istore_n (t := 2) rfl (by decide) rfl ?_
  refine wp_aload_n (t := 3) rfl rfl ?_
  refine wp_iconst (t := 4) rfl ?_
  refine wp_putI (t := 5) (ji := 14) rfl fX10_191 p10_14 rfl rfl (by omega) (by first | rfl | assumption) (by first | assumption | exact hI0 _ _ | exact zin_and _ _ | (unfold zin; omega) | (unfold zin at *; omega)) ?_
  refine wp_canon (fun hI1 => ?_)
  refine wp_iload_n (t := 6) rfl rfl ?_
  refine wp_ireturn (t := 7) rfl rfl ?_
  exact ⟨_, rfl, ⟨rfl, rfl⟩, rfl⟩
set_option maxHeartbeats 4000000 in
set_option maxRecDepth 100000 in
theorem c_X10_seen {G : zG} {d n : Nat} {I : zMem} {R : zRef} {c w t : Int} (hW : zWir n R) (hn : 143 ≤ n) (hco : 0 ≤ I 115 2 ∧ I 115 2 ≤ 6) (hse : 0 ≤ I 115 14 ∧ I 115 14 ≤ 6) (hc : zin c) (hw : zin w) (ht : zin t) : MT G mX10_seen (d + 2) 0 0 [zR 115, zI c, zI w, zI t] n I R (zP1 (fun r I' R' => ((¬ ((0 ≤ c ∧ c < I 115 2) ∧ (1 ≤ w ∧ w ≤ I 115 0) ∧ 1 ≤ t ∧ t ≤ 9999) ∧ r = -1 ∧ I' = I) ∨ (((0 ≤ c ∧ c < I 115 2) ∧ (1 ≤ w ∧ w ≤ I 115 0) ∧ 1 ≤ t ∧ t ≤ 9999) ∧ ((I 115 14 = 6 ∧ r = -3 ∧ I' = I) ∨ (I 115 14 < 6 ∧ r = I 115 14 + 1 ∧ I' = zu (zu (zu (zu I 124 (3 * I 115 14) c) 124 (3 * I 115 14 + 1) w) 124 (3 * I 115 14 + 2) t) 115 14 (I 115 14 + 1))))) ∧ R' = R)) := by
  refine MT.of (by decide +kernel) tX10_seen_ok (Nat.le_of_ble_eq_true rfl) (fun hI0 => ?_)
  have e1 : ∀ (J : zMem) (a v : Int), zu J 124 a v 115 14 = J 115 14 := fun J a v => zu_na (by decide)
  refine wp_ls (ls' := [some (zR 115), some (zI c), some (zI w), some (zI t)]) rfl ?_
  refine wp_aload_n (t := 0) rfl rfl ?_
  refine wp_iload_n (t := 1) rfl rfl ?_
  refine wp_vi (ci := 10) (c_X10_isCore (d := d) hW hn hc hco) (t := 2) rfl kX10_212 rfl rfl (by omega) (by first | rfl | assumption) ⟨_, _, rfl⟩ (Nat.le_of_ble_eq_true rfl) ⟨Nat.le_refl _, Nat.le_refl _⟩ (fun r2 I2 R2 c2 => ?_)
  refine wp_canon (fun hI1 => ?_)
  obtain ⟨e2, zi2, zr2⟩ := c2
  have zi2 := zi2.symm
  subst zi2
  have zr2 := zr2.symm
  subst zr2
  have b2 : 0 ≤ r2 ∧ r2 ≤ 1 := by rw [e2]; split <;> omega
  have n2 : ¬ r2 = 0 → 0 ≤ c ∧ c < I 115 2 := fun h => by (rw [e2] at h; by_cases q : 0 ≤ c ∧ c < I 115 2; exact q; rw [if_neg q] at h; exact absurd rfl h)
  have m2 : r2 = 0 → ¬ (0 ≤ c ∧ c < I 115 2) := fun h q => by (rw [e2, if_pos q] at h; exact absurd h (by decide))
  refine wp_if_eq (t := 3) (tgt := 28) rfl (by decide) (by first | assumption | exact hI1 _ _ | exact hI0 _ _ | exact zin_and _ _ | (unfold zin; omega) | (unfold zin at *; omega)) (fun h5 => ?_) (fun h5 => ?_)
  · refine wp_iconst (t := 14) rfl ?_
    refine wp_ireturn (t := 15) rfl rfl ?_
    exact ⟨_, rfl, Or.inl ⟨fun q => m2 h5 q.1, rfl, rfl⟩, rfl⟩
  · refine wp_aload_n (t := 4) rfl rfl ?_
    refine wp_iload_n (t := 5) rfl rfl ?_
    refine wp_vi (ci := 10) (c_X10_isWidth (d := d) hW hn hw) (t := 6) rfl kX10_222 rfl rfl (by omega) (by first | rfl | assumption) ⟨_, _, rfl⟩ (Nat.le_of_ble_eq_true rfl) ⟨Nat.le_refl _, Nat.le_refl _⟩ (fun r10 I10 R10 c10 => ?_)
    refine wp_canon (fun hI2 => ?_)
    obtain ⟨e10, zi10, zr10⟩ := c10
    have zi10 := zi10.symm
    subst zi10
    have zr10 := zr10.symm
    subst zr10
    have b10 : 0 ≤ r10 ∧ r10 ≤ 1 := by rw [e10]; split <;> omega
    have n10 : ¬ r10 = 0 → 1 ≤ w ∧ w ≤ I 115 0 := fun h => by (rw [e10] at h; by_cases q : 1 ≤ w ∧ w ≤ I 115 0; exact q; rw [if_neg q] at h; exact absurd rfl h)
    have m10 : r10 = 0 → ¬ (1 ≤ w ∧ w ≤ I 115 0) := fun h q => by (rw [e10, if_pos q] at h; exact absurd h (by decide))
    refine wp_if_eq (t := 7) (tgt := 28) rfl (by decide) (by first | assumption | exact hI2 _ _ | exact hI1 _ _ | exact hI0 _ _ | exact zin_and _ _ | (unfold zin; omega) | (unfold zin at *; omega)) (fun h13 => ?_) (fun h13 => ?_)
    · refine wp_iconst (t := 14) rfl ?_
      refine wp_ireturn (t := 15) rfl rfl ?_
      exact ⟨_, rfl, Or.inl ⟨fun q => m10 h13 q.2.1, rfl, rfl⟩, rfl⟩
    · refine wp_iload_n (t := 8) rfl rfl ?_
      refine wp_i2l (t := 9) rfl (by first | assumption | exact hI2 _ _ | exact hI1 _ _ | exact hI0 _ _ | exact zin_and _ _ | (unfold zin; omega) | (unfold zin at *; omega)) ?_
      refine wp_lconst 1 (t := 10) rfl (by decide) ?_
      refine wp_ldc2 (9999) (t := 11) rfl (wsL_law_r38_l (List.mem_of_getElem? (i := 21) rfl)) (by decide) ?_
      refine wp_si (c_X10_in (d := d + 1) (zin_long ht) (by unfold zinL; omega) (by unfold zinL; omega)) (t := 12) rfl kX10_124 rfl rfl (Nat.le_of_ble_eq_true rfl) ⟨Nat.le_refl _, Nat.le_refl _⟩ (fun r22 I22 R22 c22 => ?_)
      refine wp_canon (fun hI3 => ?_)
      obtain ⟨e22, zi22, zr22⟩ := c22
      have zi22 := zi22.symm
      subst zi22
      have zr22 := zr22.symm
      subst zr22
      have b22 : 0 ≤ r22 ∧ r22 ≤ 1 := by rw [e22]; split <;> omega
      have n22 : ¬ r22 = 0 → 1 ≤ t ∧ t ≤ 9999 := fun h => by (rw [e22] at h; by_cases q : 1 ≤ t ∧ t ≤ 9999; exact q; rw [if_neg q] at h; exact absurd rfl h)
      have m22 : r22 = 0 → ¬ (1 ≤ t ∧ t ≤ 9999) := fun h q => by (rw [e22, if_pos q] at h; exact absurd h (by decide))
      refine wp_if_ne (t := 13) (tgt := 30) rfl (by decide) (by first | assumption | exact hI3 _ _ | exact hI2 _ _ | exact hI1 _ _ | exact hI0 _ _ | exact zin_and _ _ | (unfold zin; omega) | (unfold zin at *; omega)) (fun h25 => ?_) (fun h25 => ?_)
      · refine wp_aload_n (t := 16) rfl rfl ?_
        refine wp_getI (t := 17) (ji := 14) rfl fX10_191 rfl rfl (by omega) (by first | rfl | assumption) ?_
        refine wp_bipush (t := 18) rfl (by decide) ?_
        refine wp_icmp_ne (t := 19) (tgt := 42) rfl (by decide) (by first | assumption | exact hI3 _ _ | exact hI2 _ _ | exact hI1 _ _ | exact hI0 _ _ | exact zin_and _ _ | (unfold zin; omega) | (unfold zin at *; omega)) (by first | assumption | exact hI3 _ _ | exact hI2 _ _ | exact hI1 _ _ | exact hI0 _ _ | exact zin_and _ _ | (unfold zin; omega) | (unfold zin at *; omega)) (fun h36 => ?_) (fun h36 => ?_)
        · refine wp_aload_n (t := 22) rfl rfl ?_
          refine wp_getR (t := 23) (ji := 13) rfl fX10_34 rfl rfl (by omega) (by first | rfl | assumption) (by first | exact hW _ _ _ (by omega) rfl | assumption) ?_
          refine wp_iconst (t := 24) rfl ?_
          refine wp_aload_n (t := 25) rfl rfl ?_
          refine wp_getI (t := 26) (ji := 14) rfl fX10_191 rfl rfl (by omega) (by first | rfl | assumption) ?_
          refine wp_imul (t := 27) rfl ?_
          refine wp_iload_n (t := 28) rfl rfl ?_
          refine wp_iastore (t := 29) rfl (by omega) (by first | rfl | assumption) (by omega) (by omega) (by omega) (by first | assumption | exact hI3 _ _ | exact hI2 _ _ | exact hI1 _ _ | exact hI0 _ _ | exact zin_and _ _ | (unfold zin; omega) | (unfold zin at *; omega)) ?_
          refine wp_canon (fun hI4 => ?_)
          refine wp_aload_n (t := 30) rfl rfl ?_
          refine wp_getR (t := 31) (ji := 13) rfl fX10_34 rfl rfl (by omega) (by first | rfl | assumption) (by first | exact hW _ _ _ (by omega) rfl | assumption) ?_
          refine wp_iconst (t := 32) rfl ?_
          refine wp_aload_n (t := 33) rfl rfl ?_
          refine wp_getI (t := 34) (ji := 14) rfl fX10_191 rfl rfl (by omega) (by first | rfl | assumption) ?_
          rw [e1]
          refine wp_imul (t := 35) rfl ?_
          refine wp_iconst (t := 36) rfl ?_
          refine wp_iadd (t := 37) rfl ?_
          refine wp_iload_n (t := 38) rfl rfl ?_
          refine wp_iastore (t := 39) rfl (by omega) (by first | rfl | assumption) (by omega) (by omega) (by omega) (by first | assumption | exact hI4 _ _ | exact hI3 _ _ | exact hI2 _ _ | exact hI1 _ _ | exact hI0 _ _ | exact zin_and _ _ | (unfold zin; omega) | (unfold zin at *; omega)) ?_
          refine wp_canon (fun hI5 => ?_)
          refine wp_aload_n (t := 40) rfl rfl ?_
          refine wp_getR (t := 41) (ji := 13) rfl fX10_34 rfl rfl (by omega) (by first | rfl | assumption) (by first | exact hW _ _ _ (by omega) rfl | assumption) ?_
          refine wp_iconst (t := 42) rfl ?_
          refine wp_aload_n (t := 43) rfl rfl ?_
          refine wp_getI (t := 44) (ji := 14) rfl fX10_191 rfl rfl (by omega) (by first | rfl | assumption) ?_
          rw [e1, e1]
          refine wp_imul (t := 45) rfl ?_
          refine wp_iconst (t := 46) rfl ?_
          refine wp_iadd (t := 47) rfl ?_
          refine wp_iload_n (t := 48) rfl rfl ?_
          refine wp_iastore (t := 49) rfl (by omega) (by first | rfl | assumption) (by omega) (by omega) (by omega) (by first | assumption | exact hI5 _ _ | exact hI4 _ _ | exact hI3 _ _ | exact hI2 _ _ | exact hI1 _ _ | exact hI0 _ _ | exact zin_and _ _ | (unfold zin; omega) | (unfold zin at *; omega)) ?_
          refine wp_canon (fun hI6 => ?_)
          refine wp_aload_n (t := 50) rfl rfl ?_
          refine wp_dup (t := 51) rfl rfl ?_
          refine wp_getI (t := 52) (ji := 14) rfl fX10_191 rfl rfl (by omega) (by first | rfl | assumption) ?_
          rw [e1, e1, e1]
          refine wp_iconst (t := 53) rfl ?_
          refine wp_iadd (t := 54) rfl ?_
          refine wp_putI (t := 55) (ji := 14) rfl fX10_191 p10_14 rfl rfl (by omega) (by first | rfl | assumption) (by first | assumption | exact hI6 _ _ | exact hI5 _ _ | exact hI4 _ _ | exact hI3 _ _ | exact hI2 _ _ | exact hI1 _ _ | exact hI0 _ _ | exact zin_and _ _ | (unfold zin; omega) | (unfold zin at *; omega)) ?_
          refine wp_canon (fun hI7 => ?_)
          refine wp_aload_n (t := 56) rfl rfl ?_
          refine wp_getI (t := 57) (ji := 14) rfl fX10_191 rfl rfl (by omega) (by first | rfl | assumption) ?_
          rw [zu_eq]
          refine wp_ireturn (t := 58) rfl rfl ?_
          exact ⟨_, rfl, Or.inr ⟨⟨n2 h5, n10 h13, n22 h25⟩, Or.inr ⟨by omega, rfl, rfl⟩⟩, rfl⟩
        · refine wp_bipush (t := 20) rfl (by decide) ?_
          refine wp_ireturn (t := 21) rfl rfl ?_
          exact ⟨_, rfl, Or.inr ⟨⟨n2 h5, n10 h13, n22 h25⟩, Or.inl ⟨by omega, rfl, rfl⟩⟩, rfl⟩
      · refine wp_iconst (t := 14) rfl ?_
        refine wp_ireturn (t := 15) rfl rfl ?_
        exact ⟨_, rfl, Or.inl ⟨fun q => m22 (by omega) q.2.2, rfl, rfl⟩, rfl⟩
