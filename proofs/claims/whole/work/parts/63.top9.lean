/-! the class's own methods: simple ones -/
set_option maxHeartbeats 4000000 in
set_option maxRecDepth 100000 in
theorem c_X9_isCore {G : zG} {d n : Nat} {I : zMem} {R : zRef} {c : Int} (hW : zWir n R) (hn : 115 ≤ n) (hc : zin c) : MT G mX9_isCore d 0 0 [zR 0, zI c] n I R (zP1 (fun r I' R' => r = (if 0 ≤ c ∧ c < I 34 2 then 1 else 0) ∧ I' = I ∧ R' = R)) := by
  refine MT.of (by decide +kernel) tX9_isCore_ok (Nat.le_of_ble_eq_true rfl) (fun hI0 => ?_)
  refine wp_ls (ls' := [some (zR 0), some (zI c)]) rfl ?_
  refine wp_iload_n (t := 0) rfl rfl ?_
  refine wp_if_lt (t := 1) (tgt := 19) rfl (by decide) (by first | assumption | exact hI0 _ _ | exact zin_and _ _ | (unfold zin; omega) | (unfold zin at *; omega)) (fun h1 => ?_) (fun h1 => ?_)
  · refine wp_iconst (t := 9) rfl ?_
    refine wp_zreturn (t := 10) rfl rfl (by omega) ?_
    exact ⟨_, rfl, by first | rw [if_pos (by omega)] | rw [if_neg (by omega)], rfl, rfl⟩
  · refine wp_iload_n (t := 2) rfl rfl ?_
    refine wp_aload_n (t := 3) rfl rfl ?_
    refine wp_getR (t := 4) (ji := 3) rfl fX9_32 rfl rfl (by omega) (by first | rfl | assumption) (by first | exact hW _ _ _ (by omega) rfl | assumption) ?_
    refine wp_getI (t := 5) (ji := 2) rfl fX9_194 rfl rfl (by omega) (by first | rfl | assumption) ?_
    refine wp_icmp_ge (t := 6) (tgt := 19) rfl (by decide) (by first | assumption | exact hI0 _ _ | exact zin_and _ _ | (unfold zin; omega) | (unfold zin at *; omega)) (by first | assumption | exact hI0 _ _ | exact zin_and _ _ | (unfold zin; omega) | (unfold zin at *; omega)) (fun h12 => ?_) (fun h12 => ?_)
    · refine wp_iconst (t := 9) rfl ?_
      refine wp_zreturn (t := 10) rfl rfl (by omega) ?_
      exact ⟨_, rfl, by first | rw [if_pos (by omega)] | rw [if_neg (by omega)], rfl, rfl⟩
    · refine wp_iconst (t := 7) rfl ?_
      refine wp_goto (t := 8) (tgt := 20) rfl (by decide) ?_
      refine wp_zreturn (t := 10) rfl rfl (by omega) ?_
      exact ⟨_, rfl, by first | rw [if_pos (by omega)] | rw [if_neg (by omega)], rfl, rfl⟩
set_option maxHeartbeats 4000000 in
set_option maxRecDepth 100000 in
theorem c_X9_isWidth {G : zG} {d n : Nat} {I : zMem} {R : zRef} {c : Int} (hW : zWir n R) (hn : 115 ≤ n) (hc : zin c) : MT G mX9_isWidth d 0 0 [zR 0, zI c] n I R (zP1 (fun r I' R' => r = (if 1 ≤ c ∧ c ≤ I 34 0 then 1 else 0) ∧ I' = I ∧ R' = R)) := by
  refine MT.of (by decide +kernel) tX9_isWidth_ok (Nat.le_of_ble_eq_true rfl) (fun hI0 => ?_)
  refine wp_ls (ls' := [some (zR 0), some (zI c)]) rfl ?_
  refine wp_iload_n (t := 0) rfl rfl ?_
  refine wp_iconst (t := 1) rfl ?_
  refine wp_icmp_lt (t := 2) (tgt := 20) rfl (by decide) (by first | assumption | exact hI0 _ _ | exact zin_and _ _ | (unfold zin; omega) | (unfold zin at *; omega)) (by first | assumption | exact hI0 _ _ | exact zin_and _ _ | (unfold zin; omega) | (unfold zin at *; omega)) (fun h2 => ?_) (fun h2 => ?_)
  · refine wp_iconst (t := 10) rfl ?_
    refine wp_zreturn (t := 11) rfl rfl (by omega) ?_
    exact ⟨_, rfl, by first | rw [if_pos (by omega)] | rw [if_neg (by omega)], rfl, rfl⟩
  · refine wp_iload_n (t := 3) rfl rfl ?_
    refine wp_aload_n (t := 4) rfl rfl ?_
    refine wp_getR (t := 5) (ji := 3) rfl fX9_32 rfl rfl (by omega) (by first | rfl | assumption) (by first | exact hW _ _ _ (by omega) rfl | assumption) ?_
    refine wp_getI (t := 6) (ji := 0) rfl fX9_260 rfl rfl (by omega) (by first | rfl | assumption) ?_
    refine wp_icmp_gt (t := 7) (tgt := 20) rfl (by decide) (by first | assumption | exact hI0 _ _ | exact zin_and _ _ | (unfold zin; omega) | (unfold zin at *; omega)) (by first | assumption | exact hI0 _ _ | exact zin_and _ _ | (unfold zin; omega) | (unfold zin at *; omega)) (fun h13 => ?_) (fun h13 => ?_)
    · refine wp_iconst (t := 10) rfl ?_
      refine wp_zreturn (t := 11) rfl rfl (by omega) ?_
      exact ⟨_, rfl, by first | rw [if_pos (by omega)] | rw [if_neg (by omega)], rfl, rfl⟩
    · refine wp_iconst (t := 8) rfl ?_
      refine wp_goto (t := 9) (tgt := 21) rfl (by decide) ?_
      refine wp_zreturn (t := 11) rfl rfl (by omega) ?_
      exact ⟨_, rfl, by first | rw [if_pos (by omega)] | rw [if_neg (by omega)], rfl, rfl⟩
set_option maxHeartbeats 4000000 in
set_option maxRecDepth 100000 in
theorem c_X9_isCycle {G : zG} {d n : Nat} {I : zMem} {R : zRef} {t : Int} (hc : zin t) : MT G mX9_isCycle d 0 0 [zI t] n I R (zP1 (fun r I' R' => r = (if 0 ≤ t ∧ t ≤ 99999 then 1 else 0) ∧ I' = I ∧ R' = R)) := by
  refine MT.of (by decide +kernel) tX9_isCycle_ok (Nat.le_of_ble_eq_true rfl) (fun hI0 => ?_)
  refine wp_ls (ls' := [some (zI t)]) rfl ?_
  refine wp_iload_n (t := 0) rfl rfl ?_
  refine wp_if_lt (t := 1) (tgt := 15) rfl (by decide) (by first | assumption | exact hI0 _ _ | exact zin_and _ _ | (unfold zin; omega) | (unfold zin at *; omega)) (fun h1 => ?_) (fun h1 => ?_)
  · refine wp_iconst (t := 7) rfl ?_
    refine wp_zreturn (t := 8) rfl rfl (by omega) ?_
    exact ⟨_, rfl, by first | rw [if_pos (by omega)] | rw [if_neg (by omega)], rfl, rfl⟩
  · refine wp_iload_n (t := 2) rfl rfl ?_
    refine wp_ldcw (99999) (t := 3) rfl (wsL_law_r24_l (List.mem_of_getElem? (i := 5) rfl)) (by decide) ?_
    refine wp_icmp_gt (t := 4) (tgt := 15) rfl (by decide) (by first | assumption | exact hI0 _ _ | exact zin_and _ _ | (unfold zin; omega) | (unfold zin at *; omega)) (by first | assumption | exact hI0 _ _ | exact zin_and _ _ | (unfold zin; omega) | (unfold zin at *; omega)) (fun h8 => ?_) (fun h8 => ?_)
    · refine wp_iconst (t := 7) rfl ?_
      refine wp_zreturn (t := 8) rfl rfl (by omega) ?_
      exact ⟨_, rfl, by first | rw [if_pos (by omega)] | rw [if_neg (by omega)], rfl, rfl⟩
    · refine wp_iconst (t := 5) rfl ?_
      refine wp_goto (t := 6) (tgt := 16) rfl (by decide) ?_
      refine wp_zreturn (t := 8) rfl rfl (by omega) ?_
      exact ⟨_, rfl, by first | rw [if_pos (by omega)] | rw [if_neg (by omega)], rfl, rfl⟩
set_option maxHeartbeats 4000000 in
set_option maxRecDepth 100000 in
theorem c_X9_write {G : zG} {d n : Nat} {I : zMem} {R : zRef} {x : Int} (hW : zWir n R) (hn : 115 ≤ n) (hx : zin x) (hlen : 0 ≤ I 1 1 ∧ I 1 1 ≤ 200) : MT G mX9_write (d + 1) 0 0 [zR 0, zI x] n I R (zP1 (fun r I' R' => ((¬ (32 ≤ x ∧ x ≤ 126) ∧ r = -1 ∧ I' = I) ∨ ((32 ≤ x ∧ x ≤ 126) ∧ I 1 1 = 200 ∧ r = -3 ∧ I' = I) ∨ ((32 ≤ x ∧ x ≤ 126) ∧ I 1 1 < 200 ∧ r = I 1 1 + 1 ∧ I' = zu (zu I 2 (I 1 1) x) 1 1 (I 1 1 + 1))) ∧ R' = R)) := by
  refine MT.of (by decide +kernel) tX9_write_ok (Nat.le_of_ble_eq_true rfl) (fun hI0 => ?_)
  refine wp_ls (ls' := [some (zR 0), some (zI x)]) rfl ?_
  refine wp_iload_n (t := 0) rfl rfl ?_
  refine wp_bipush (t := 1) rfl (by decide) ?_
  refine wp_icmp_lt (t := 2) (tgt := 12) rfl (by decide) (by first | assumption | exact hI0 _ _ | exact zin_and _ _ | (unfold zin; omega) | (unfold zin at *; omega)) (by first | assumption | exact hI0 _ _ | exact zin_and _ _ | (unfold zin; omega) | (unfold zin at *; omega)) (fun h3 => ?_) (fun h3 => ?_)
  · refine wp_iconst (t := 6) rfl ?_
    refine wp_ireturn (t := 7) rfl rfl ?_
    exact ⟨_, rfl, Or.inl ⟨by omega, rfl, rfl⟩, rfl⟩
  · refine wp_iload_n (t := 3) rfl rfl ?_
    refine wp_bipush (t := 4) rfl (by decide) ?_
    refine wp_icmp_le (t := 5) (tgt := 14) rfl (by decide) (by first | assumption | exact hI0 _ _ | exact zin_and _ _ | (unfold zin; omega) | (unfold zin at *; omega)) (by first | assumption | exact hI0 _ _ | exact zin_and _ _ | (unfold zin; omega) | (unfold zin at *; omega)) (fun h9 => ?_) (fun h9 => ?_)
    · refine wp_aload_n (t := 8) rfl rfl ?_
      refine wp_getR (t := 9) (ji := 0) rfl fX9_12 rfl rfl (by omega) (by first | rfl | assumption) (by first | exact hW _ _ _ (by omega) rfl | assumption) ?_
      refine wp_getI (t := 10) (ji := 1) rfl fX9_109 rfl rfl (by omega) (by first | rfl | assumption) ?_
      refine wp_sipush (t := 11) rfl (by decide) ?_
      refine wp_icmp_lt (t := 12) (tgt := 30) rfl (by decide) (by first | assumption | exact hI0 _ _ | exact zin_and _ _ | (unfold zin; omega) | (unfold zin at *; omega)) (by first | assumption | exact hI0 _ _ | exact zin_and _ _ | (unfold zin; omega) | (unfold zin at *; omega)) (fun h24 => ?_) (fun h24 => ?_)
      · refine wp_aload_n (t := 15) rfl rfl ?_
        refine wp_getR (t := 16) (ji := 0) rfl fX9_12 rfl rfl (by omega) (by first | rfl | assumption) (by first | exact hW _ _ _ (by omega) rfl | assumption) ?_
        refine wp_iload_n (t := 17) rfl rfl ?_
        refine wp_vv (ci := 8) (c_X8_add (d := d) hW hn hx ⟨by omega, by omega⟩) (t := 18) rfl kX9_100 rfl rfl (by omega) (by first | rfl | assumption) ⟨_, _, rfl⟩ (Nat.le_of_ble_eq_true rfl) ⟨Nat.le_refl _, Nat.le_refl _⟩ (fun I35 R35 c35 => ?_)
        refine wp_canon (fun hI1 => ?_)
        obtain ⟨zi35, zr35⟩ := c35
        have zr35 := zr35.symm
        subst zr35
        subst zi35
        refine wp_aload_n (t := 19) rfl rfl ?_
        refine wp_getR (t := 20) (ji := 0) rfl fX9_12 rfl rfl (by omega) (by first | rfl | assumption) (by first | exact hW _ _ _ (by omega) rfl | assumption) ?_
        refine wp_getI (t := 21) (ji := 1) rfl fX9_109 rfl rfl (by omega) (by first | rfl | assumption) ?_
        rw [zu_eq]
        refine wp_ireturn (t := 22) rfl rfl ?_
        exact ⟨_, rfl, Or.inr (Or.inr ⟨by omega, by omega, rfl, rfl⟩), rfl⟩
      · refine wp_bipush (t := 13) rfl (by decide) ?_
        refine wp_ireturn (t := 14) rfl rfl ?_
        exact ⟨_, rfl, Or.inr (Or.inl ⟨by omega, by omega, rfl, rfl⟩), rfl⟩
    · refine wp_iconst (t := 6) rfl ?_
      refine wp_ireturn (t := 7) rfl rfl ?_
      exact ⟨_, rfl, Or.inl ⟨by omega, rfl, rfl⟩, rfl⟩
set_option maxHeartbeats 4000000 in
set_option maxRecDepth 100000 in
theorem c_X9_wipe {G : zG} {d n : Nat} {I : zMem} {R : zRef} (hW : zWir n R) (hn : 115 ≤ n) : MT G mX9_wipe (d + 1) 0 0 [zR 0] n I R (zP1 (fun r I' R' => (r = I 1 1 ∧ I' = zu I 1 1 0) ∧ R' = R)) := by
  refine MT.of (by decide +kernel) tX9_wipe_ok (Nat.le_of_ble_eq_true rfl) (fun hI0 => ?_)
  refine wp_ls (ls' := [some (zR 0), none]) rfl ?_
  refine wp_aload_n (t := 0) rfl rfl ?_
  refine wp_getR (t := 1) (ji := 0) rfl fX9_12 rfl rfl (by omega) (by first | rfl | assumption) (by first | exact hW _ _ _ (by omega) rfl | assumption) ?_
  refine wp_getI (t := 2) (ji := 1) rfl fX9_109 rfl rfl (by omega) (by first | rfl | assumption) ?_
  refine wp_istore_n (t := 3) rfl (by decide) rfl ?_
  refine wp_aload_n (t := 4) rfl rfl ?_
  refine wp_getR (t := 5) (ji := 0) rfl fX9_12 rfl rfl (by omega) (by first | rfl | assumption) (by first | exact hW _ _ _ (by omega) rfl | assumption) ?_
  refine wp_vv (ci := 8) (c_X8_clear (d := d) hn) (t := 6) rfl kX9_106 rfl rfl (by omega) (by first | rfl | assumption) ⟨_, _, rfl⟩ (Nat.le_of_ble_eq_true rfl) ⟨Nat.le_refl _, Nat.le_refl _⟩ (fun I12 R12 c12 => ?_)
  refine wp_canon (fun hI1 => ?_)
  obtain ⟨zi12, zr12⟩ := c12
  have zr12 := zr12.symm
  subst zr12
  refine wp_iload_n (t := 7) rfl rfl ?_
  refine wp_ireturn (t := 8) rfl rfl ?_
  exact ⟨_, rfl, ⟨rfl, zi12⟩, rfl⟩
set_option maxHeartbeats 4000000 in
set_option maxRecDepth 100000 in
theorem c_X9_fault {G : zG} {d n : Nat} {I : zMem} {R : zRef} (hW : zWir n R) (hn : 115 ≤ n) (hlen : 0 ≤ I 1 1 ∧ I 1 1 ≤ 200) : MT G mX9_fault (d + 5) 0 0 [zR 0] n I R (zP1 (fun r I' R' => (r = (pParse (I 2) (I 1 1) 200 pS0 0).1 ∧ cFr I I' 4) ∧ R' = R)) := by
  refine MT.of (by decide +kernel) tX9_fault_ok (Nat.le_of_ble_eq_true rfl) (fun hI0 => ?_)
  refine wp_ls (ls' := [some (zR 0)]) rfl ?_
  refine wp_aload_n (t := 0) rfl rfl ?_
  refine wp_getR (t := 1) (ji := 1) rfl fX9_21 rfl rfl (by omega) (by first | rfl | assumption) (by first | exact hW _ _ _ (by omega) rfl | assumption) ?_
  refine wp_aload_n (t := 2) rfl rfl ?_
  refine wp_getR (t := 3) (ji := 2) rfl fX9_28 rfl rfl (by omega) (by first | rfl | assumption) (by first | exact hW _ _ _ (by omega) rfl | assumption) ?_
  refine wp_vi (ci := 4) (c_X4_firstFault (d := d) (Or.inl rfl) hW hn hlen) (t := 4) rfl kX9_112 rfl rfl (by omega) (by first | rfl | assumption) ⟨_, _, rfl⟩ (Nat.le_of_ble_eq_true rfl) ⟨Nat.le_refl _, Nat.le_refl _⟩ (fun r8 I8 R8 c8 => ?_)
  refine wp_canon (fun hI1 => ?_)
  obtain ⟨⟨e8, b8, q8, f8⟩, zr8⟩ := c8
  have zr8 := zr8.symm
  subst zr8
  refine wp_ireturn (t := 5) rfl rfl ?_
  exact ⟨_, rfl, ⟨e8, f8⟩, rfl⟩
/-- what core() answers of the class -/
def cCore (I : zMem) (c wh : Int) : Int := if ¬ (0 ≤ c ∧ c < I 34 2) then -1 else if wh = 0 then I 65 c else if wh = 1 then I 36 c else if wh = 2 then I 37 c else if wh = 3 then I 38 c else if wh = 4 then (if 0 < I 66 c then I 66 c else -4) else if wh = 5 then (if 0 < I 66 c then I 67 c else -4) else if wh = 6 then (zst (sT (cS I 64) c) (I 34 0).toNat).1 else -1
set_option maxHeartbeats 4000000 in
set_option maxRecDepth 100000 in
theorem c_X9_core {G : zG} {d n : Nat} {I : zMem} {R : zRef} {c wh : Int} (hW : zWir n R) (hn : 115 ≤ n) (hch : zCh I) (hpl : zPl I 64) (hc : zin c) (hwh : zin wh) : MT G mX9_core (d + 4) 0 0 [zR 0, zI c, zI wh] n I R (zP1 (fun r I' R' => r = cCore I c wh ∧ I' = I ∧ R' = R)) := by
  refine MT.of (by decide +kernel) tX9_core_ok (Nat.le_of_ble_eq_true rfl) (fun hI0 => ?_)
  have hco := hch.1
  refine wp_ls (ls' := [some (zR 0), some (zI c), some (zI wh)]) rfl ?_
  refine wp_aload_n (t := 0) rfl rfl ?_
  refine wp_iload_n (t := 1) rfl rfl ?_
  refine wp_vi (ci := 9) (c_X9_isCore (d := d + 3) hW hn hc) (t := 2) rfl kX9_116 rfl rfl (by omega) (by first | rfl | assumption) ⟨_, _, rfl⟩ (Nat.le_of_ble_eq_true rfl) ⟨Nat.le_refl _, Nat.le_refl _⟩ (fun r2 I2 R2 c2 => ?_)
  refine wp_canon (fun hI1 => ?_)
  obtain ⟨e2, zi2, zr2⟩ := c2
  have zi2 := zi2.symm
  subst zi2
  have zr2 := zr2.symm
  subst zr2
  have b2 : 0 ≤ r2 ∧ r2 ≤ 1 := by rw [e2]; split <;> omega
  have n2 : ¬ r2 = 0 → 0 ≤ c ∧ c < I 34 2 := fun h => by (rw [e2] at h; by_cases q : 0 ≤ c ∧ c < I 34 2; exact q; rw [if_neg q] at h; exact absurd rfl h)
  have m2 : r2 = 0 → ¬ (0 ≤ c ∧ c < I 34 2) := fun h q => by (rw [e2, if_pos q] at h; exact absurd h (by decide))
  refine wp_if_ne (t := 3) (tgt := 10) rfl (by decide) (by first | assumption | exact hI1 _ _ | exact hI0 _ _ | exact zin_and _ _ | (unfold zin; omega) | (unfold zin at *; omega)) (fun h5 => ?_) (fun h5 => ?_)
  · refine wp_iload_n (t := 6) rfl rfl ?_
    have cc := n2 (by assumption)
    refine wp_top (fun y11 e11 => ?_)
    have z11 : zin y11 := (by first | assumption | exact hI1 _ _ | exact hI0 _ _ | exact zin_and _ _ | (unfold zin; omega) | (unfold zin at *; omega) | (rw [e11]; first | exact hI1 _ _ | exact hI0 _ _ | (unfold zin; omega)))
    rcases (show y11 = 0 ∨ y11 = 1 ∨ y11 = 2 ∨ y11 = 3 ∨ y11 = 4 ∨ y11 = 5 ∨ y11 = 6 ∨ (y11 < 0 ∨ 6 < y11) by omega) with h11 | h11 | h11 | h11 | h11 | h11 | h11 | h11
    · refine wp_tin (0) (t := 7) (off := 41) (tgt := 52) rfl h11 z11 (by decide) (by decide) rfl (by decide) ?_
      refine wp_aload_n (t := 8) rfl rfl ?_
      refine wp_getR (t := 9) (ji := 4) rfl fX9_40 rfl rfl (by omega) (by first | rfl | assumption) (by first | exact hW _ _ _ (by omega) rfl | assumption) ?_
      refine wp_getR (t := 10) (ji := 1) rfl fX9_120 rfl rfl (by omega) (by first | rfl | assumption) (by first | exact hW _ _ _ (by omega) rfl | assumption) ?_
      refine wp_iload_n (t := 11) rfl rfl ?_
      refine wp_iaload (t := 12) rfl (by omega) (by first | rfl | assumption) (by omega) (by omega) (by omega) ?_
      refine wp_ireturn (t := 13) rfl rfl ?_
      exact ⟨_, rfl, by unfold cCore; rw [if_neg (fun q => q cc), if_pos (by omega)], rfl, rfl⟩
    · refine wp_tin (1) (t := 7) (off := 51) (tgt := 62) rfl h11 z11 (by decide) (by decide) rfl (by decide) ?_
      refine wp_aload_n (t := 14) rfl rfl ?_
      refine wp_getR (t := 15) (ji := 3) rfl fX9_32 rfl rfl (by omega) (by first | rfl | assumption) (by first | exact hW _ _ _ (by omega) rfl | assumption) ?_
      refine wp_getR (t := 16) (ji := 5) rfl fX9_123 rfl rfl (by omega) (by first | rfl | assumption) (by first | exact hW _ _ _ (by omega) rfl | assumption) ?_
      refine wp_iload_n (t := 17) rfl rfl ?_
      refine wp_iaload (t := 18) rfl (by omega) (by first | rfl | assumption) (by omega) (by omega) (by omega) ?_
      refine wp_ireturn (t := 19) rfl rfl ?_
      exact ⟨_, rfl, by unfold cCore; rw [if_neg (fun q => q cc), if_neg (by omega), if_pos (by omega)], rfl, rfl⟩
    · refine wp_tin (2) (t := 7) (off := 61) (tgt := 72) rfl h11 z11 (by decide) (by decide) rfl (by decide) ?_
      refine wp_aload_n (t := 20) rfl rfl ?_
      refine wp_getR (t := 21) (ji := 3) rfl fX9_32 rfl rfl (by omega) (by first | rfl | assumption) (by first | exact hW _ _ _ (by omega) rfl | assumption) ?_
      refine wp_getR (t := 22) (ji := 6) rfl fX9_126 rfl rfl (by omega) (by first | rfl | assumption) (by first | exact hW _ _ _ (by omega) rfl | assumption) ?_
      refine wp_iload_n (t := 23) rfl rfl ?_
      refine wp_iaload (t := 24) rfl (by omega) (by first | rfl | assumption) (by omega) (by omega) (by omega) ?_
      refine wp_ireturn (t := 25) rfl rfl ?_
      exact ⟨_, rfl, by unfold cCore; rw [if_neg (fun q => q cc), if_neg (by omega), if_neg (by omega), if_pos (by omega)], rfl, rfl⟩
    · refine wp_tin (3) (t := 7) (off := 71) (tgt := 82) rfl h11 z11 (by decide) (by decide) rfl (by decide) ?_
      refine wp_aload_n (t := 26) rfl rfl ?_
      refine wp_getR (t := 27) (ji := 3) rfl fX9_32 rfl rfl (by omega) (by first | rfl | assumption) (by first | exact hW _ _ _ (by omega) rfl | assumption) ?_
      refine wp_getR (t := 28) (ji := 7) rfl fX9_129 rfl rfl (by omega) (by first | rfl | assumption) (by first | exact hW _ _ _ (by omega) rfl | assumption) ?_
      refine wp_iload_n (t := 29) rfl rfl ?_
      refine wp_iaload (t := 30) rfl (by omega) (by first | rfl | assumption) (by omega) (by omega) (by omega) ?_
      refine wp_ireturn (t := 31) rfl rfl ?_
      exact ⟨_, rfl, by unfold cCore; rw [if_neg (fun q => q cc), if_neg (by omega), if_neg (by omega), if_neg (by omega), if_pos (by omega)], rfl, rfl⟩
    · refine wp_tin (4) (t := 7) (off := 81) (tgt := 92) rfl h11 z11 (by decide) (by decide) rfl (by decide) ?_
      refine wp_aload_n (t := 32) rfl rfl ?_
      refine wp_getR (t := 33) (ji := 4) rfl fX9_40 rfl rfl (by omega) (by first | rfl | assumption) (by first | exact hW _ _ _ (by omega) rfl | assumption) ?_
      refine wp_iload_n (t := 34) rfl rfl ?_
      refine wp_vi (ci := 3) (c_X3_isPut (p := 64) (d := d + 3) (Or.inl rfl) hW hn ⟨by omega, by omega⟩) (t := 35) rfl kX9_132 rfl rfl (by omega) (by first | rfl | assumption) ⟨_, _, rfl⟩ (Nat.le_of_ble_eq_true rfl) ⟨Nat.le_refl _, Nat.le_refl _⟩ (fun r97 I97 R97 c97 => ?_)
      refine wp_canon (fun hI2 => ?_)
      obtain ⟨e97, zi97, zr97⟩ := c97
      have zi97 := zi97.symm
      subst zi97
      have zr97 := zr97.symm
      subst zr97
      have b97 : 0 ≤ r97 ∧ r97 ≤ 1 := by rw [e97]; split <;> omega
      have n97 : ¬ r97 = 0 → 0 < I 66 c := fun h => by (rw [e97] at h; by_cases q : 0 < I 66 c; exact q; rw [if_neg q] at h; exact absurd rfl h)
      have m97 : r97 = 0 → ¬ (0 < I 66 c) := fun h q => by (rw [e97, if_pos q] at h; exact absurd h (by decide))
      refine wp_if_eq (t := 36) (tgt := 115) rfl (by decide) (by first | assumption | exact hI2 _ _ | exact hI1 _ _ | exact hI0 _ _ | exact zin_and _ _ | (unfold zin; omega) | (unfold zin at *; omega)) (fun h100 => ?_) (fun h100 => ?_)
      · refine wp_bipush (t := 43) rfl (by decide) ?_
        refine wp_ireturn (t := 44) rfl rfl ?_
        exact ⟨_, rfl, by unfold cCore; rw [if_neg (fun q => q cc), if_neg (by omega), if_neg (by omega), if_neg (by omega), if_neg (by omega), if_pos (by omega), if_neg (m97 h100)], rfl, rfl⟩
      · refine wp_aload_n (t := 37) rfl rfl ?_
        refine wp_getR (t := 38) (ji := 4) rfl fX9_40 rfl rfl (by omega) (by first | rfl | assumption) (by first | exact hW _ _ _ (by omega) rfl | assumption) ?_
        refine wp_getR (t := 39) (ji := 2) rfl fX9_135 rfl rfl (by omega) (by first | rfl | assumption) (by first | exact hW _ _ _ (by omega) rfl | assumption) ?_
        refine wp_iload_n (t := 40) rfl rfl ?_
        refine wp_iaload (t := 41) rfl (by omega) (by first | rfl | assumption) (by omega) (by omega) (by omega) ?_
        refine wp_goto (t := 42) (tgt := 117) rfl (by decide) ?_
        refine wp_ireturn (t := 44) rfl rfl ?_
        exact ⟨_, rfl, by unfold cCore; rw [if_neg (fun q => q cc), if_neg (by omega), if_neg (by omega), if_neg (by omega), if_neg (by omega), if_pos (by omega), if_pos (n97 h100)], rfl, rfl⟩
    · refine wp_tin (5) (t := 7) (off := 107) (tgt := 118) rfl h11 z11 (by decide) (by decide) rfl (by decide) ?_
      refine wp_aload_n (t := 45) rfl rfl ?_
      refine wp_getR (t := 46) (ji := 4) rfl fX9_40 rfl rfl (by omega) (by first | rfl | assumption) (by first | exact hW _ _ _ (by omega) rfl | assumption) ?_
      refine wp_iload_n (t := 47) rfl rfl ?_
      refine wp_vi (ci := 3) (c_X3_isPut (p := 64) (d := d + 3) (Or.inl rfl) hW hn ⟨by omega, by omega⟩) (t := 48) rfl kX9_132 rfl rfl (by omega) (by first | rfl | assumption) ⟨_, _, rfl⟩ (Nat.le_of_ble_eq_true rfl) ⟨Nat.le_refl _, Nat.le_refl _⟩ (fun r123 I123 R123 c123 => ?_)
      refine wp_canon (fun hI2 => ?_)
      obtain ⟨e123, zi123, zr123⟩ := c123
      have zi123 := zi123.symm
      subst zi123
      have zr123 := zr123.symm
      subst zr123
      have b123 : 0 ≤ r123 ∧ r123 ≤ 1 := by rw [e123]; split <;> omega
      have n123 : ¬ r123 = 0 → 0 < I 66 c := fun h => by (rw [e123] at h; by_cases q : 0 < I 66 c; exact q; rw [if_neg q] at h; exact absurd rfl h)
      have m123 : r123 = 0 → ¬ (0 < I 66 c) := fun h q => by (rw [e123, if_pos q] at h; exact absurd h (by decide))
      refine wp_if_eq (t := 49) (tgt := 141) rfl (by decide) (by first | assumption | exact hI2 _ _ | exact hI1 _ _ | exact hI0 _ _ | exact zin_and _ _ | (unfold zin; omega) | (unfold zin at *; omega)) (fun h126 => ?_) (fun h126 => ?_)
      · refine wp_bipush (t := 56) rfl (by decide) ?_
        refine wp_ireturn (t := 57) rfl rfl ?_
        exact ⟨_, rfl, by unfold cCore; rw [if_neg (fun q => q cc), if_neg (by omega), if_neg (by omega), if_neg (by omega), if_neg (by omega), if_neg (by omega), if_pos (by omega), if_neg (m123 h126)], rfl, rfl⟩
      · refine wp_aload_n (t := 50) rfl rfl ?_
        refine wp_getR (t := 51) (ji := 4) rfl fX9_40 rfl rfl (by omega) (by first | rfl | assumption) (by first | exact hW _ _ _ (by omega) rfl | assumption) ?_
        refine wp_getR (t := 52) (ji := 3) rfl fX9_138 rfl rfl (by omega) (by first | rfl | assumption) (by first | exact hW _ _ _ (by omega) rfl | assumption) ?_
        refine wp_iload_n (t := 53) rfl rfl ?_
        refine wp_iaload (t := 54) rfl (by omega) (by first | rfl | assumption) (by omega) (by omega) (by omega) ?_
        refine wp_goto (t := 55) (tgt := 143) rfl (by decide) ?_
        refine wp_ireturn (t := 57) rfl rfl ?_
        exact ⟨_, rfl, by unfold cCore; rw [if_neg (fun q => q cc), if_neg (by omega), if_neg (by omega), if_neg (by omega), if_neg (by omega), if_neg (by omega), if_pos (by omega), if_pos (n123 h126)], rfl, rfl⟩
    · refine wp_tin (6) (t := 7) (off := 133) (tgt := 144) rfl h11 z11 (by decide) (by decide) rfl (by decide) ?_
      refine wp_aload_n (t := 58) rfl rfl ?_
      refine wp_getR (t := 59) (ji := 4) rfl fX9_40 rfl rfl (by omega) (by first | rfl | assumption) (by first | exact hW _ _ _ (by omega) rfl | assumption) ?_
      refine wp_iload_n (t := 60) rfl rfl ?_
      refine wp_vi (ci := 3) (c_X3_stairs (p := 64) (d := d) (Or.inl rfl) hW hn hch hpl cc) (t := 61) rfl kX9_141 rfl rfl (by omega) (by first | rfl | assumption) ⟨_, _, rfl⟩ (Nat.le_of_ble_eq_true rfl) ⟨Nat.le_refl _, Nat.le_refl _⟩ (fun r149 I149 R149 c149 => ?_)
      refine wp_canon (fun hI2 => ?_)
      obtain ⟨e149, zi149, zr149⟩ := c149
      have zi149 := zi149.symm
      subst zi149
      have zr149 := zr149.symm
      subst zr149
      refine wp_ireturn (t := 62) rfl rfl ?_
      exact ⟨_, rfl, by unfold cCore; rw [if_neg (fun q => q cc), if_neg (by omega), if_neg (by omega), if_neg (by omega), if_neg (by omega), if_neg (by omega), if_neg (by omega), if_pos (by omega)]; exact e149, rfl, rfl⟩
    · refine wp_tout (t := 7) (tgt := 153) rfl z11 h11 (by decide) ?_
      refine wp_iconst (t := 63) rfl ?_
      refine wp_ireturn (t := 64) rfl rfl ?_
      exact ⟨_, rfl, by unfold cCore; rw [if_neg (fun q => q cc), if_neg (by omega), if_neg (by omega), if_neg (by omega), if_neg (by omega), if_neg (by omega), if_neg (by omega), if_neg (by omega)], rfl, rfl⟩
  · refine wp_iconst (t := 4) rfl ?_
    refine wp_ireturn (t := 5) rfl rfl ?_
    exact ⟨_, rfl, (if_pos (m2 (by omega))).symm, rfl, rfl⟩
def cChain (I : zMem) (c i : Int) : Int := if ¬ (0 ≤ c ∧ c < I 34 2) ∨ i < 0 then -1 else if i < I 38 c then I (40 + c.toNat) i else -4
set_option maxHeartbeats 4000000 in
set_option maxRecDepth 100000 in
theorem c_X9_chain {G : zG} {d n : Nat} {I : zMem} {R : zRef} {c i : Int} (hW : zWir n R) (hn : 115 ≤ n) (hch : zCh I) (hc : zin c) (hi : zin i) : MT G mX9_chain (d + 1) 0 0 [zR 0, zI c, zI i] n I R (zP1 (fun r I' R' => r = cChain I c i ∧ I' = I ∧ R' = R)) := by
  refine MT.of (by decide +kernel) tX9_chain_ok (Nat.le_of_ble_eq_true rfl) (fun hI0 => ?_)
  have hco := hch.1
  have hrow : 0 ≤ c → c < 6 → R 39 c = some (40 + c.toNat) := fun a b => zrowR (m := 6) hW (by omega) (by decide) a (by omega)
  have hlrow : 0 ≤ c → c < 6 → zlay (40 + c.toNat) = (20, 6) := fun a b => zrowL (m := 6) (by decide) (by omega) a
  refine wp_ls (ls' := [some (zR 0), some (zI c), some (zI i)]) rfl ?_
  refine wp_aload_n (t := 0) rfl rfl ?_
  refine wp_iload_n (t := 1) rfl rfl ?_
  refine wp_vi (ci := 9) (c_X9_isCore (d := d) hW hn hc) (t := 2) rfl kX9_116 rfl rfl (by omega) (by first | rfl | assumption) ⟨_, _, rfl⟩ (Nat.le_of_ble_eq_true rfl) ⟨Nat.le_refl _, Nat.le_refl _⟩ (fun r2 I2 R2 c2 => ?_)
  refine wp_canon (fun hI1 => ?_)
  obtain ⟨e2, zi2, zr2⟩ := c2
  have zi2 := zi2.symm
  subst zi2
  have zr2 := zr2.symm
  subst zr2
  have b2 : 0 ≤ r2 ∧ r2 ≤ 1 := by rw [e2]; split <;> omega
  have n2 : ¬ r2 = 0 → 0 ≤ c ∧ c < I 34 2 := fun h => by (rw [e2] at h; by_cases q : 0 ≤ c ∧ c < I 34 2; exact q; rw [if_neg q] at h; exact absurd rfl h)
  have m2 : r2 = 0 → ¬ (0 ≤ c ∧ c < I 34 2) := fun h q => by (rw [e2, if_pos q] at h; exact absurd h (by decide))
  refine wp_if_eq (t := 3) (tgt := 12) rfl (by decide) (by first | assumption | exact hI1 _ _ | exact hI0 _ _ | exact zin_and _ _ | (unfold zin; omega) | (unfold zin at *; omega)) (fun h5 => ?_) (fun h5 => ?_)
  · refine wp_iconst (t := 6) rfl ?_
    refine wp_ireturn (t := 7) rfl rfl ?_
    exact ⟨_, rfl, (if_pos (Or.inl (m2 h5))).symm, rfl, rfl⟩
  · refine wp_iload_n (t := 4) rfl rfl ?_
    refine wp_if_ge (t := 5) (tgt := 14) rfl (by decide) (by first | assumption | exact hI1 _ _ | exact hI0 _ _ | exact zin_and _ _ | (unfold zin; omega) | (unfold zin at *; omega)) (fun h9 => ?_) (fun h9 => ?_)
    · have cc := n2 (by assumption)
      have cm := (hch.2.2.2.2.1 c cc.1 cc.2).2.2.1
      have hrow := hrow cc.1 (by omega)
      have hlrow := hlrow cc.1 (by omega)
      refine wp_iload_n (t := 8) rfl rfl ?_
      refine wp_aload_n (t := 9) rfl rfl ?_
      refine wp_getR (t := 10) (ji := 3) rfl fX9_32 rfl rfl (by omega) (by first | rfl | assumption) (by first | exact hW _ _ _ (by omega) rfl | assumption) ?_
      refine wp_getR (t := 11) (ji := 7) rfl fX9_129 rfl rfl (by omega) (by first | rfl | assumption) (by first | exact hW _ _ _ (by omega) rfl | assumption) ?_
      refine wp_iload_n (t := 12) rfl rfl ?_
      refine wp_iaload (t := 13) rfl (by omega) (by first | rfl | assumption) (by omega) (by omega) (by omega) ?_
      refine wp_icmp_ge (t := 14) (tgt := 41) rfl (by decide) (by first | assumption | exact hI1 _ _ | exact hI0 _ _ | exact zin_and _ _ | (unfold zin; omega) | (unfold zin at *; omega)) (by first | assumption | exact hI1 _ _ | exact hI0 _ _ | exact zin_and _ _ | (unfold zin; omega) | (unfold zin at *; omega)) (fun h24 => ?_) (fun h24 => ?_)
      · refine wp_bipush (t := 23) rfl (by decide) ?_
        refine wp_ireturn (t := 24) rfl rfl ?_
        exact ⟨_, rfl, by unfold cChain; rw [if_neg (fun q => by rcases q with q | q; exact q cc; omega)]; first | rw [if_pos (by omega)] | rw [if_neg (by omega)], rfl, rfl⟩
      · refine wp_aload_n (t := 15) rfl rfl ?_
        refine wp_getR (t := 16) (ji := 3) rfl fX9_32 rfl rfl (by omega) (by first | rfl | assumption) (by first | exact hW _ _ _ (by omega) rfl | assumption) ?_
        refine wp_getR (t := 17) (ji := 8) rfl fX9_145 rfl rfl (by omega) (by first | rfl | assumption) (by first | exact hW _ _ _ (by omega) rfl | assumption) ?_
        refine wp_iload_n (t := 18) rfl rfl ?_
        refine wp_aaload (t := 19) rfl (by omega) (by first | rfl | assumption) (by omega) (by omega) (by omega) (by first | exact hW _ _ _ (by omega) rfl | assumption) ?_
        refine wp_iload_n (t := 20) rfl rfl ?_
        refine wp_iaload (t := 21) rfl (by omega) (by first | rfl | assumption) (by omega) (by omega) (by omega) ?_
        refine wp_goto (t := 22) (tgt := 43) rfl (by decide) ?_
        refine wp_ireturn (t := 24) rfl rfl ?_
        exact ⟨_, rfl, by unfold cChain; rw [if_neg (fun q => by rcases q with q | q; exact q cc; omega)]; first | rw [if_pos (by omega)] | rw [if_neg (by omega)], rfl, rfl⟩
    · refine wp_iconst (t := 6) rfl ?_
      refine wp_ireturn (t := 7) rfl rfl ?_
      exact ⟨_, rfl, (if_pos (Or.inr (by omega))).symm, rfl, rfl⟩
set_option maxHeartbeats 4000000 in
set_option maxRecDepth 100000 in
theorem c_X9_wrap {G : zG} {d n : Nat} {I : zMem} {R : zRef} {c w wh : Int} (hW : zWir n R) (hn : 115 ≤ n) (hch : zCh I) (hc : zin c) (hw : zin w) (hwh : zin wh) : MT G mX9_wrap (d + 9) 0 0 [zR 0, zI c, zI w, zI wh] n I R (zP1 (fun r I' R' => ((¬ ((0 ≤ c ∧ c < I 34 2) ∧ 1 ≤ w ∧ w ≤ I 34 0) ∧ r = -1) ∨ (((0 ≤ c ∧ c < I 34 2) ∧ 1 ≤ w ∧ w ≤ I 34 0) ∧ ((wh = 0 ∧ r = I (49 + c.toNat) w) ∨ (wh = 1 ∧ ∃ ld : Int → Int, (∀ x : Int, 0 ≤ x → x < 8 → ld x = 0) ∧ r = ilTry (I (40 + c.toNat)) (I 38 c) w (I 38 c).toNat ld 0 (I (49 + c.toNat) w)) ∨ (wh = 2 ∧ r = tkOf (I 65 c) (I 36 c) (I (49 + c.toNat) w)) ∨ ((wh < 0 ∨ 2 < wh) ∧ r = -1)))) ∧ (∀ b : Nat, b ≠ 62 → I' b = I b) ∧ R' = R)) := by
  refine MT.of (by decide +kernel) tX9_wrap_ok (Nat.le_of_ble_eq_true rfl) (fun hI0 => ?_)
  have hco := hch.1
  have hli := hch.2.1
  have hrow : 0 ≤ c → c < 6 → R 48 c = some (49 + c.toNat) := fun a b => zrowR (m := 6) hW (by omega) (by decide) a (by omega)
  have hlrow : 0 ≤ c → c < 6 → zlay (49 + c.toNat) = (20, 9) := fun a b => zrowL (m := 6) (by decide) (by omega) a
  refine wp_ls (ls' := [some (zR 0), some (zI c), some (zI w), some (zI wh)]) rfl ?_
  refine wp_aload_n (t := 0) rfl rfl ?_
  refine wp_iload_n (t := 1) rfl rfl ?_
  refine wp_vi (ci := 9) (c_X9_isCore (d := d + 8) hW hn hc) (t := 2) rfl kX9_116 rfl rfl (by omega) (by first | rfl | assumption) ⟨_, _, rfl⟩ (Nat.le_of_ble_eq_true rfl) ⟨Nat.le_refl _, Nat.le_refl _⟩ (fun r2 I2 R2 c2 => ?_)
  refine wp_canon (fun hI1 => ?_)
  obtain ⟨e2, zi2, zr2⟩ := c2
  have zi2 := zi2.symm
  subst zi2
  have zr2 := zr2.symm
  subst zr2
  have b2 : 0 ≤ r2 ∧ r2 ≤ 1 := by rw [e2]; split <;> omega
  have n2 : ¬ r2 = 0 → 0 ≤ c ∧ c < I 34 2 := fun h => by (rw [e2] at h; by_cases q : 0 ≤ c ∧ c < I 34 2; exact q; rw [if_neg q] at h; exact absurd rfl h)
  have m2 : r2 = 0 → ¬ (0 ≤ c ∧ c < I 34 2) := fun h q => by (rw [e2, if_pos q] at h; exact absurd h (by decide))
  refine wp_if_eq (t := 3) (tgt := 16) rfl (by decide) (by first | assumption | exact hI1 _ _ | exact hI0 _ _ | exact zin_and _ _ | (unfold zin; omega) | (unfold zin at *; omega)) (fun h5 => ?_) (fun h5 => ?_)
  · refine wp_iconst (t := 8) rfl ?_
    refine wp_ireturn (t := 9) rfl rfl ?_
    exact ⟨_, rfl, Or.inl ⟨fun q => m2 h5 q.1, rfl⟩, fun _ _ => rfl, rfl⟩
  · refine wp_aload_n (t := 4) rfl rfl ?_
    refine wp_iload_n (t := 5) rfl rfl ?_
    refine wp_vi (ci := 9) (c_X9_isWidth (d := d + 8) hW hn hw) (t := 6) rfl kX9_149 rfl rfl (by omega) (by first | rfl | assumption) ⟨_, _, rfl⟩ (Nat.le_of_ble_eq_true rfl) ⟨Nat.le_refl _, Nat.le_refl _⟩ (fun r10 I10 R10 c10 => ?_)
    refine wp_canon (fun hI2 => ?_)
    obtain ⟨e10, zi10, zr10⟩ := c10
    have zi10 := zi10.symm
    subst zi10
    have zr10 := zr10.symm
    subst zr10
    have b10 : 0 ≤ r10 ∧ r10 ≤ 1 := by rw [e10]; split <;> omega
    have n10 : ¬ r10 = 0 → 1 ≤ w ∧ w ≤ I 34 0 := fun h => by (rw [e10] at h; by_cases q : 1 ≤ w ∧ w ≤ I 34 0; exact q; rw [if_neg q] at h; exact absurd rfl h)
    have m10 : r10 = 0 → ¬ (1 ≤ w ∧ w ≤ I 34 0) := fun h q => by (rw [e10, if_pos q] at h; exact absurd h (by decide))
    refine wp_if_ne (t := 7) (tgt := 18) rfl (by decide) (by first | assumption | exact hI2 _ _ | exact hI1 _ _ | exact hI0 _ _ | exact zin_and _ _ | (unfold zin; omega) | (unfold zin at *; omega)) (fun h13 => ?_) (fun h13 => ?_)
    · have cc := n2 (by assumption)
      have ww := n10 (by assumption)
      have hrow := hrow cc.1 (by omega)
      have hlrow := hlrow cc.1 (by omega)
      have hcc := hch.2.2.2.2.1 c cc.1 cc.2
      have hlo := hcc.2.2.2.2 w ww.1 ww.2
      refine wp_iload_n (t := 10) rfl rfl ?_
      refine wp_top (fun y19 e19 => ?_)
      have z19 : zin y19 := (by first | assumption | exact hI2 _ _ | exact hI1 _ _ | exact hI0 _ _ | exact zin_and _ _ | (unfold zin; omega) | (unfold zin at *; omega) | (rw [e19]; first | exact hI2 _ _ | exact hI1 _ _ | exact hI0 _ _ | (unfold zin; omega)))
      rcases (show y19 = 0 ∨ y19 = 1 ∨ y19 = 2 ∨ (y19 < 0 ∨ 2 < y19) by omega) with h19 | h19 | h19 | h19
      · refine wp_tin (0) (t := 11) (off := 25) (tgt := 44) rfl h19 z19 (by decide) (by decide) rfl (by decide) ?_
        refine wp_aload_n (t := 12) rfl rfl ?_
        refine wp_getR (t := 13) (ji := 3) rfl fX9_32 rfl rfl (by omega) (by first | rfl | assumption) (by first | exact hW _ _ _ (by omega) rfl | assumption) ?_
        refine wp_getR (t := 14) (ji := 11) rfl fX9_152 rfl rfl (by omega) (by first | rfl | assumption) (by first | exact hW _ _ _ (by omega) rfl | assumption) ?_
        refine wp_iload_n (t := 15) rfl rfl ?_
        refine wp_aaload (t := 16) rfl (by omega) (by first | rfl | assumption) (by omega) (by omega) (by omega) (by first | exact hW _ _ _ (by omega) rfl | assumption) ?_
        refine wp_iload_n (t := 17) rfl rfl ?_
        refine wp_iaload (t := 18) rfl (by omega) (by first | rfl | assumption) (by omega) (by omega) (by omega) ?_
        refine wp_ireturn (t := 19) rfl rfl ?_
        exact ⟨_, rfl, Or.inr ⟨⟨cc, ww⟩, Or.inl ⟨by omega, rfl⟩⟩, fun _ _ => rfl, rfl⟩
      · refine wp_tin (1) (t := 11) (off := 37) (tgt := 56) rfl h19 z19 (by decide) (by decide) rfl (by decide) ?_
        refine wp_aload_n (t := 20) rfl rfl ?_
        refine wp_getR (t := 21) (ji := 3) rfl fX9_32 rfl rfl (by omega) (by first | rfl | assumption) (by first | exact hW _ _ _ (by omega) rfl | assumption) ?_
        refine wp_iload_n (t := 22) rfl rfl ?_
        refine wp_iload_n (t := 23) rfl rfl ?_
        refine wp_vi (ci := 2) (c_X2_idealLoad (d := d) hW hn ⟨by omega, by omega⟩ ⟨by omega, by omega⟩ ⟨hcc.2.2.1, hcc.2.2.2.1⟩ ⟨by omega, by omega⟩) (t := 24) rfl kX9_155 rfl rfl (by omega) (by first | rfl | assumption) ⟨_, _, rfl⟩ (Nat.le_of_ble_eq_true rfl) ⟨Nat.le_refl _, Nat.le_refl _⟩ (fun r62 I62 R62 c62 => ?_)
        refine wp_canon (fun hI3 => ?_)
        obtain ⟨⟨f62, ld, l0, e62⟩, zr62⟩ := c62
        have zr62 := zr62.symm
        subst zr62
        refine wp_ireturn (t := 25) rfl rfl ?_
        exact ⟨_, rfl, Or.inr ⟨⟨cc, ww⟩, Or.inr (Or.inl ⟨by omega, ld, l0, e62⟩)⟩, f62, rfl⟩
      · refine wp_tin (2) (t := 11) (off := 47) (tgt := 66) rfl h19 z19 (by decide) (by decide) rfl (by decide) ?_
        refine wp_aload_n (t := 26) rfl rfl ?_
        refine wp_getR (t := 27) (ji := 4) rfl fX9_40 rfl rfl (by omega) (by first | rfl | assumption) (by first | exact hW _ _ _ (by omega) rfl | assumption) ?_
        refine wp_iload_n (t := 28) rfl rfl ?_
        refine wp_iload_n (t := 29) rfl rfl ?_
        refine wp_vi (ci := 3) (c_X3_takes (p := 64) (d := d + 6) (Or.inl rfl) hW hn ⟨by omega, by omega⟩ ⟨by omega, by omega⟩ ⟨by omega, by omega⟩ ⟨by omega, by omega⟩) (t := 30) rfl kX9_159 rfl rfl (by omega) (by first | rfl | assumption) ⟨_, _, rfl⟩ (Nat.le_of_ble_eq_true rfl) ⟨Nat.le_refl _, Nat.le_refl _⟩ (fun r72 I72 R72 c72 => ?_)
        refine wp_canon (fun hI3 => ?_)
        obtain ⟨e72, zi72, zr72⟩ := c72
        have zi72 := zi72.symm
        subst zi72
        have zr72 := zr72.symm
        subst zr72
        refine wp_ireturn (t := 31) rfl rfl ?_
        exact ⟨_, rfl, Or.inr ⟨⟨cc, ww⟩, Or.inr (Or.inr (Or.inl ⟨by omega, by rw [e72]; exact cS_T ⟨by omega, by omega⟩⟩))⟩, fun _ _ => rfl, rfl⟩
      · refine wp_tout (t := 11) (tgt := 76) rfl z19 h19 (by decide) ?_
        refine wp_iconst (t := 32) rfl ?_
        refine wp_ireturn (t := 33) rfl rfl ?_
        exact ⟨_, rfl, Or.inr ⟨⟨cc, ww⟩, Or.inr (Or.inr (Or.inr ⟨by omega, rfl⟩))⟩, fun _ _ => rfl, rfl⟩
    · refine wp_iconst (t := 8) rfl ?_
      refine wp_ireturn (t := 9) rfl rfl ?_
      exact ⟨_, rfl, Or.inl ⟨fun q => m10 (by omega) q.2, rfl⟩, fun _ _ => rfl, rfl⟩
def cLine (I : zMem) (c w i : Int) : Int := if ¬ ((0 ≤ c ∧ c < I 34 2) ∧ (1 ≤ w ∧ w ≤ I 34 0) ∧ 0 ≤ i) then -1 else if i < I 38 c then I (56 + c.toNat) (w * 6 + i) else -4
set_option maxHeartbeats 4000000 in
set_option maxRecDepth 100000 in
theorem c_X9_line {G : zG} {d n : Nat} {I : zMem} {R : zRef} {c w i : Int} (hW : zWir n R) (hn : 115 ≤ n) (hch : zCh I) (hc : zin c) (hw : zin w) (hi : zin i) : MT G mX9_line (d + 1) 0 0 [zR 0, zI c, zI w, zI i] n I R (zP1 (fun r I' R' => r = cLine I c w i ∧ I' = I ∧ R' = R)) := by
  refine MT.of (by decide +kernel) tX9_line_ok (Nat.le_of_ble_eq_true rfl) (fun hI0 => ?_)
  have hco := hch.1
  have hli := hch.2.1
  have hrow : 0 ≤ c → c < 6 → R 55 c = some (56 + c.toNat) := fun a b => zrowR (m := 6) hW (by omega) (by decide) a (by omega)
  have hlrow : 0 ≤ c → c < 6 → zlay (56 + c.toNat) = (20, 54) := fun a b => zrowL (m := 6) (by decide) (by omega) a
  refine wp_ls (ls' := [some (zR 0), some (zI c), some (zI w), some (zI i)]) rfl ?_
  refine wp_aload_n (t := 0) rfl rfl ?_
  refine wp_iload_n (t := 1) rfl rfl ?_
  refine wp_vi (ci := 9) (c_X9_isCore (d := d) hW hn hc) (t := 2) rfl kX9_116 rfl rfl (by omega) (by first | rfl | assumption) ⟨_, _, rfl⟩ (Nat.le_of_ble_eq_true rfl) ⟨Nat.le_refl _, Nat.le_refl _⟩ (fun r2 I2 R2 c2 => ?_)
  refine wp_canon (fun hI1 => ?_)
  obtain ⟨e2, zi2, zr2⟩ := c2
  have zi2 := zi2.symm
  subst zi2
  have zr2 := zr2.symm
  subst zr2
  have b2 : 0 ≤ r2 ∧ r2 ≤ 1 := by rw [e2]; split <;> omega
  have n2 : ¬ r2 = 0 → 0 ≤ c ∧ c < I 34 2 := fun h => by (rw [e2] at h; by_cases q : 0 ≤ c ∧ c < I 34 2; exact q; rw [if_neg q] at h; exact absurd rfl h)
  have m2 : r2 = 0 → ¬ (0 ≤ c ∧ c < I 34 2) := fun h q => by (rw [e2, if_pos q] at h; exact absurd h (by decide))
  refine wp_if_eq (t := 3) (tgt := 20) rfl (by decide) (by first | assumption | exact hI1 _ _ | exact hI0 _ _ | exact zin_and _ _ | (unfold zin; omega) | (unfold zin at *; omega)) (fun h5 => ?_) (fun h5 => ?_)
  · refine wp_iconst (t := 10) rfl ?_
    refine wp_ireturn (t := 11) rfl rfl ?_
    exact ⟨_, rfl, (if_pos (fun q => m2 h5 q.1)).symm, rfl, rfl⟩
  · refine wp_aload_n (t := 4) rfl rfl ?_
    refine wp_iload_n (t := 5) rfl rfl ?_
    refine wp_vi (ci := 9) (c_X9_isWidth (d := d) hW hn hw) (t := 6) rfl kX9_149 rfl rfl (by omega) (by first | rfl | assumption) ⟨_, _, rfl⟩ (Nat.le_of_ble_eq_true rfl) ⟨Nat.le_refl _, Nat.le_refl _⟩ (fun r10 I10 R10 c10 => ?_)
    refine wp_canon (fun hI2 => ?_)
    obtain ⟨e10, zi10, zr10⟩ := c10
    have zi10 := zi10.symm
    subst zi10
    have zr10 := zr10.symm
    subst zr10
    have b10 : 0 ≤ r10 ∧ r10 ≤ 1 := by rw [e10]; split <;> omega
    have n10 : ¬ r10 = 0 → 1 ≤ w ∧ w ≤ I 34 0 := fun h => by (rw [e10] at h; by_cases q : 1 ≤ w ∧ w ≤ I 34 0; exact q; rw [if_neg q] at h; exact absurd rfl h)
    have m10 : r10 = 0 → ¬ (1 ≤ w ∧ w ≤ I 34 0) := fun h q => by (rw [e10, if_pos q] at h; exact absurd h (by decide))
    refine wp_if_eq (t := 7) (tgt := 20) rfl (by decide) (by first | assumption | exact hI2 _ _ | exact hI1 _ _ | exact hI0 _ _ | exact zin_and _ _ | (unfold zin; omega) | (unfold zin at *; omega)) (fun h13 => ?_) (fun h13 => ?_)
    · refine wp_iconst (t := 10) rfl ?_
      refine wp_ireturn (t := 11) rfl rfl ?_
      exact ⟨_, rfl, (if_pos (fun q => m10 h13 q.2.1)).symm, rfl, rfl⟩
    · refine wp_iload_n (t := 8) rfl rfl ?_
      refine wp_if_ge (t := 9) (tgt := 22) rfl (by decide) (by first | assumption | exact hI2 _ _ | exact hI1 _ _ | exact hI0 _ _ | exact zin_and _ _ | (unfold zin; omega) | (unfold zin at *; omega)) (fun h17 => ?_) (fun h17 => ?_)
      · have cc := n2 (by assumption)
        have ww := n10 (by assumption)
        have cm := (hch.2.2.2.2.1 c cc.1 cc.2).2.2.1
        have hrow := hrow cc.1 (by omega)
        have hlrow := hlrow cc.1 (by omega)
        refine wp_iload_n (t := 12) rfl rfl ?_
        refine wp_aload_n (t := 13) rfl rfl ?_
        refine wp_getR (t := 14) (ji := 3) rfl fX9_32 rfl rfl (by omega) (by first | rfl | assumption) (by first | exact hW _ _ _ (by omega) rfl | assumption) ?_
        refine wp_getR (t := 15) (ji := 7) rfl fX9_129 rfl rfl (by omega) (by first | rfl | assumption) (by first | exact hW _ _ _ (by omega) rfl | assumption) ?_
        refine wp_iload_n (t := 16) rfl rfl ?_
        refine wp_iaload (t := 17) rfl (by omega) (by first | rfl | assumption) (by omega) (by omega) (by omega) ?_
        refine wp_icmp_ge (t := 18) (tgt := 54) rfl (by decide) (by first | assumption | exact hI2 _ _ | exact hI1 _ _ | exact hI0 _ _ | exact zin_and _ _ | (unfold zin; omega) | (unfold zin at *; omega)) (by first | assumption | exact hI2 _ _ | exact hI1 _ _ | exact hI0 _ _ | exact zin_and _ _ | (unfold zin; omega) | (unfold zin at *; omega)) (fun h32 => ?_) (fun h32 => ?_)
        · refine wp_bipush (t := 31) rfl (by decide) ?_
          refine wp_ireturn (t := 32) rfl rfl ?_
          exact ⟨_, rfl, by unfold cLine; rw [if_neg (fun q => q ⟨cc, ww, by omega⟩)]; first | rw [if_pos (by omega)] | rw [if_neg (by omega)], rfl, rfl⟩
        · refine wp_aload_n (t := 19) rfl rfl ?_
          refine wp_getR (t := 20) (ji := 3) rfl fX9_32 rfl rfl (by omega) (by first | rfl | assumption) (by first | exact hW _ _ _ (by omega) rfl | assumption) ?_
          refine wp_getR (t := 21) (ji := 12) rfl fX9_162 rfl rfl (by omega) (by first | rfl | assumption) (by first | exact hW _ _ _ (by omega) rfl | assumption) ?_
          refine wp_iload_n (t := 22) rfl rfl ?_
          refine wp_aaload (t := 23) rfl (by omega) (by first | rfl | assumption) (by omega) (by omega) (by omega) (by first | exact hW _ _ _ (by omega) rfl | assumption) ?_
          refine wp_iload_n (t := 24) rfl rfl ?_
          refine wp_bipush (t := 25) rfl (by decide) ?_
          refine wp_imul (t := 26) rfl ?_
          refine wp_iload_n (t := 27) rfl rfl ?_
          refine wp_iadd (t := 28) rfl ?_
          refine wp_iaload (t := 29) rfl (by omega) (by first | rfl | assumption) (by omega) (by omega) (by omega) ?_
          refine wp_goto (t := 30) (tgt := 56) rfl (by decide) ?_
          refine wp_ireturn (t := 32) rfl rfl ?_
          exact ⟨_, rfl, by unfold cLine; rw [if_neg (fun q => q ⟨cc, ww, by omega⟩)]; first | rw [if_pos (by omega)] | rw [if_neg (by omega)], rfl, rfl⟩
      · refine wp_iconst (t := 10) rfl ?_
        refine wp_ireturn (t := 11) rfl rfl ?_
        exact ⟨_, rfl, (if_pos (fun q => by omega)).symm, rfl, rfl⟩
set_option maxHeartbeats 4000000 in
set_option maxRecDepth 100000 in
theorem c_X9_why {G : zG} {d n : Nat} {I : zMem} {R : zRef} {i : Int} (hW : zWir n R) (hn : 115 ≤ n) (hi : zin i) (hm : 0 ≤ I 109 1 ∧ I 109 1 ≤ 4) : MT G mX9_why (d + 1) 0 0 [zR 0, zI i] n I R (zP1 (fun r I' R' => r = (if i < -1 then -1 else if i = -1 then I 109 1 else if i < I 109 1 then I 110 i else -4) ∧ I' = I ∧ R' = R)) := by
  refine MT.of (by decide +kernel) tX9_why_ok (Nat.le_of_ble_eq_true rfl) (fun hI0 => ?_)
  refine wp_ls (ls' := [some (zR 0), some (zI i)]) rfl ?_
  refine wp_iload_n (t := 0) rfl rfl ?_
  refine wp_iconst (t := 1) rfl ?_
  refine wp_icmp_ge (t := 2) (tgt := 7) rfl (by decide) (by first | assumption | exact hI0 _ _ | exact zin_and _ _ | (unfold zin; omega) | (unfold zin at *; omega)) (by first | assumption | exact hI0 _ _ | exact zin_and _ _ | (unfold zin; omega) | (unfold zin at *; omega)) (fun h2 => ?_) (fun h2 => ?_)
  · refine wp_iload_n (t := 5) rfl rfl ?_
    refine wp_iconst (t := 6) rfl ?_
    refine wp_icmp_ne (t := 7) (tgt := 20) rfl (by decide) (by first | assumption | exact hI0 _ _ | exact zin_and _ _ | (unfold zin; omega) | (unfold zin at *; omega)) (by first | assumption | exact hI0 _ _ | exact zin_and _ _ | (unfold zin; omega) | (unfold zin at *; omega)) (fun h9 => ?_) (fun h9 => ?_)
    · refine wp_aload_n (t := 12) rfl rfl ?_
      refine wp_getR (t := 13) (ji := 10) rfl fX9_77 rfl rfl (by omega) (by first | rfl | assumption) (by first | exact hW _ _ _ (by omega) rfl | assumption) ?_
      refine wp_iload_n (t := 14) rfl rfl ?_
      refine wp_vi (ci := 1) (c_X1_number (d := d) hW hn hm hi) (t := 15) rfl kX9_219 rfl rfl (by omega) (by first | rfl | assumption) ⟨_, _, rfl⟩ (Nat.le_of_ble_eq_true rfl) ⟨Nat.le_refl _, Nat.le_refl _⟩ (fun r25 I25 R25 c25 => ?_)
      refine wp_canon (fun hI1 => ?_)
      obtain ⟨e25, zi25, zr25⟩ := c25
      have zi25 := zi25.symm
      subst zi25
      have zr25 := zr25.symm
      subst zr25
      refine wp_ireturn (t := 16) rfl rfl ?_
      refine ⟨_, rfl, ?_, rfl, rfl⟩
      rw [e25, if_neg (show ¬ i < -1 by omega), if_neg (show ¬ i = -1 by omega)]
      by_cases q : i < I 109 1
      · rw [if_pos ⟨by omega, q⟩, if_pos q]
      · rw [if_neg (fun z => q z.2), if_neg q]
    · refine wp_aload_n (t := 8) rfl rfl ?_
      refine wp_getR (t := 9) (ji := 10) rfl fX9_77 rfl rfl (by omega) (by first | rfl | assumption) (by first | exact hW _ _ _ (by omega) rfl | assumption) ?_
      refine wp_getI (t := 10) (ji := 1) rfl fX9_216 rfl rfl (by omega) (by first | rfl | assumption) ?_
      refine wp_ireturn (t := 11) rfl rfl ?_
      exact ⟨_, rfl, by rw [if_neg (by omega), if_pos (by omega)], rfl, rfl⟩
  · refine wp_iconst (t := 3) rfl ?_
    refine wp_ireturn (t := 4) rfl rfl ?_
    exact ⟨_, rfl, (if_pos (by omega)).symm, rfl, rfl⟩
set_option maxHeartbeats 4000000 in
set_option maxRecDepth 100000 in
theorem c_X9_soonest {G : zG} {d n : Nat} {I : zMem} {R : zRef} {c w : Int} (hW : zWir n R) (hn : 115 ≤ n) (hch : zCh I) (hpl : zPl I 64) (hc : zin c) (hw : zin w) : MT G mX9_soonest (d + 4) 0 0 [zR 0, zI c, zI w] n I R (zP1 (fun r I' R' => r = (if ¬ ((0 ≤ c ∧ c < I 34 2) ∧ 1 ≤ w ∧ w ≤ I 34 0) then -1 else if 0 < I 66 c then -4 else sSoon (cS I 64) c w 1000000) ∧ I' = I ∧ R' = R)) := by
  refine MT.of (by decide +kernel) tX9_soonest_ok (Nat.le_of_ble_eq_true rfl) (fun hI0 => ?_)
  have hco := hch.1
  refine wp_ls (ls' := [some (zR 0), some (zI c), some (zI w)]) rfl ?_
  refine wp_aload_n (t := 0) rfl rfl ?_
  refine wp_iload_n (t := 1) rfl rfl ?_
  refine wp_vi (ci := 9) (c_X9_isCore (d := d + 3) hW hn hc) (t := 2) rfl kX9_116 rfl rfl (by omega) (by first | rfl | assumption) ⟨_, _, rfl⟩ (Nat.le_of_ble_eq_true rfl) ⟨Nat.le_refl _, Nat.le_refl _⟩ (fun r2 I2 R2 c2 => ?_)
  refine wp_canon (fun hI1 => ?_)
  obtain ⟨e2, zi2, zr2⟩ := c2
  have zi2 := zi2.symm
  subst zi2
  have zr2 := zr2.symm
  subst zr2
  have b2 : 0 ≤ r2 ∧ r2 ≤ 1 := by rw [e2]; split <;> omega
  have n2 : ¬ r2 = 0 → 0 ≤ c ∧ c < I 34 2 := fun h => by (rw [e2] at h; by_cases q : 0 ≤ c ∧ c < I 34 2; exact q; rw [if_neg q] at h; exact absurd rfl h)
  have m2 : r2 = 0 → ¬ (0 ≤ c ∧ c < I 34 2) := fun h q => by (rw [e2, if_pos q] at h; exact absurd h (by decide))
  refine wp_if_eq (t := 3) (tgt := 16) rfl (by decide) (by first | assumption | exact hI1 _ _ | exact hI0 _ _ | exact zin_and _ _ | (unfold zin; omega) | (unfold zin at *; omega)) (fun h5 => ?_) (fun h5 => ?_)
  · refine wp_iconst (t := 8) rfl ?_
    refine wp_ireturn (t := 9) rfl rfl ?_
    exact ⟨_, rfl, (if_pos (fun q => m2 h5 q.1)).symm, rfl, rfl⟩
  · refine wp_aload_n (t := 4) rfl rfl ?_
    refine wp_iload_n (t := 5) rfl rfl ?_
    refine wp_vi (ci := 9) (c_X9_isWidth (d := d + 3) hW hn hw) (t := 6) rfl kX9_149 rfl rfl (by omega) (by first | rfl | assumption) ⟨_, _, rfl⟩ (Nat.le_of_ble_eq_true rfl) ⟨Nat.le_refl _, Nat.le_refl _⟩ (fun r10 I10 R10 c10 => ?_)
    refine wp_canon (fun hI2 => ?_)
    obtain ⟨e10, zi10, zr10⟩ := c10
    have zi10 := zi10.symm
    subst zi10
    have zr10 := zr10.symm
    subst zr10
    have b10 : 0 ≤ r10 ∧ r10 ≤ 1 := by rw [e10]; split <;> omega
    have n10 : ¬ r10 = 0 → 1 ≤ w ∧ w ≤ I 34 0 := fun h => by (rw [e10] at h; by_cases q : 1 ≤ w ∧ w ≤ I 34 0; exact q; rw [if_neg q] at h; exact absurd rfl h)
    have m10 : r10 = 0 → ¬ (1 ≤ w ∧ w ≤ I 34 0) := fun h q => by (rw [e10, if_pos q] at h; exact absurd h (by decide))
    refine wp_if_ne (t := 7) (tgt := 18) rfl (by decide) (by first | assumption | exact hI2 _ _ | exact hI1 _ _ | exact hI0 _ _ | exact zin_and _ _ | (unfold zin; omega) | (unfold zin at *; omega)) (fun h13 => ?_) (fun h13 => ?_)
    · have cc := n2 (by assumption)
      have ww := n10 (by assumption)
      refine wp_aload_n (t := 10) rfl rfl ?_
      refine wp_getR (t := 11) (ji := 4) rfl fX9_40 rfl rfl (by omega) (by first | rfl | assumption) (by first | exact hW _ _ _ (by omega) rfl | assumption) ?_
      refine wp_iload_n (t := 12) rfl rfl ?_
      refine wp_vi (ci := 3) (c_X3_isPut (p := 64) (d := d + 3) (Or.inl rfl) hW hn ⟨by omega, by omega⟩) (t := 13) rfl kX9_132 rfl rfl (by omega) (by first | rfl | assumption) ⟨_, _, rfl⟩ (Nat.le_of_ble_eq_true rfl) ⟨Nat.le_refl _, Nat.le_refl _⟩ (fun r23 I23 R23 c23 => ?_)
      refine wp_canon (fun hI3 => ?_)
      obtain ⟨e23, zi23, zr23⟩ := c23
      have zi23 := zi23.symm
      subst zi23
      have zr23 := zr23.symm
      subst zr23
      have b23 : 0 ≤ r23 ∧ r23 ≤ 1 := by rw [e23]; split <;> omega
      have n23 : ¬ r23 = 0 → 0 < I 66 c := fun h => by (rw [e23] at h; by_cases q : 0 < I 66 c; exact q; rw [if_neg q] at h; exact absurd rfl h)
      have m23 : r23 = 0 → ¬ (0 < I 66 c) := fun h q => by (rw [e23, if_pos q] at h; exact absurd h (by decide))
      refine wp_if_eq (t := 14) (tgt := 34) rfl (by decide) (by first | assumption | exact hI3 _ _ | exact hI2 _ _ | exact hI1 _ _ | exact hI0 _ _ | exact zin_and _ _ | (unfold zin; omega) | (unfold zin at *; omega)) (fun h26 => ?_) (fun h26 => ?_)
      · refine wp_aload_n (t := 17) rfl rfl ?_
        refine wp_getR (t := 18) (ji := 4) rfl fX9_40 rfl rfl (by omega) (by first | rfl | assumption) (by first | exact hW _ _ _ (by omega) rfl | assumption) ?_
        refine wp_iload_n (t := 19) rfl rfl ?_
        refine wp_iload_n (t := 20) rfl rfl ?_
        refine wp_ldc (1000000) (t := 21) rfl (wsL_law_r29_l (List.mem_of_getElem? (i := 1) rfl)) (by decide) ?_
        refine wp_vi (ci := 3) (c_X3_firstNotRefused (p := 64) (d := d) (Or.inl rfl) hW hn hch hpl cc ww (by unfold zin; omega)) (t := 22) rfl kX9_222 rfl rfl (by omega) (by first | rfl | assumption) ⟨_, _, rfl⟩ (Nat.le_of_ble_eq_true rfl) ⟨Nat.le_refl _, Nat.le_refl _⟩ (fun r42 I42 R42 c42 => ?_)
        refine wp_canon (fun hI4 => ?_)
        obtain ⟨e42, zi42, zr42⟩ := c42
        have zi42 := zi42.symm
        subst zi42
        have zr42 := zr42.symm
        subst zr42
        refine wp_ireturn (t := 23) rfl rfl ?_
        exact ⟨_, rfl, by rw [if_neg (fun q => q ⟨cc, ww⟩), if_neg (m23 h26), e42], rfl, rfl⟩
      · refine wp_bipush (t := 15) rfl (by decide) ?_
        refine wp_goto (t := 16) (tgt := 45) rfl (by decide) ?_
        refine wp_ireturn (t := 23) rfl rfl ?_
        exact ⟨_, rfl, by rw [if_neg (fun q => q ⟨cc, ww⟩), if_pos (n23 h26)], rfl, rfl⟩
    · refine wp_iconst (t := 8) rfl ?_
      refine wp_ireturn (t := 9) rfl rfl ?_
      exact ⟨_, rfl, (if_pos (fun q => m10 (by omega) q.2)).symm, rfl, rfl⟩
set_option maxHeartbeats 4000000 in
set_option maxRecDepth 100000 in
theorem c_X9_runs {G : zG} {d n : Nat} {I : zMem} {R : zRef} {t wh : Int} (hW : zWir n R) (hn : 115 ≤ n) (hch : zCh I) (ht : zin t) (hwh : zin wh) : MT G mX9_runs (d + 1) 0 0 [zR 0, zI t, zI wh] n I R (zP1 (fun r I' R' => r = (if ¬ ((0 ≤ t ∧ t ≤ 99999) ∧ 0 ≤ wh ∧ wh ≤ 2) then -1 else sUse (cS I 64) wh t) ∧ I' = I ∧ R' = R)) := by
  refine MT.of (by decide +kernel) tX9_runs_ok (Nat.le_of_ble_eq_true rfl) (fun hI0 => ?_)
  have hco := hch.1
  refine wp_ls (ls' := [some (zR 0), some (zI t), some (zI wh)]) rfl ?_
  refine wp_iload_n (t := 0) rfl rfl ?_
  refine wp_si (c_X9_isCycle (d := d) ht) (t := 1) rfl kX9_165 rfl rfl (Nat.le_of_ble_eq_true rfl) ⟨Nat.le_refl _, Nat.le_refl _⟩ (fun r1 I1 R1 c1 => ?_)
  refine wp_canon (fun hI1 => ?_)
  obtain ⟨e1, zi1, zr1⟩ := c1
  have zi1 := zi1.symm
  subst zi1
  have zr1 := zr1.symm
  subst zr1
  have b1 : 0 ≤ r1 ∧ r1 ≤ 1 := by rw [e1]; split <;> omega
  have n1 : ¬ r1 = 0 → 0 ≤ t ∧ t ≤ 99999 := fun h => by (rw [e1] at h; by_cases q : 0 ≤ t ∧ t ≤ 99999; exact q; rw [if_neg q] at h; exact absurd rfl h)
  have m1 : r1 = 0 → ¬ (0 ≤ t ∧ t ≤ 99999) := fun h q => by (rw [e1, if_pos q] at h; exact absurd h (by decide))
  refine wp_if_eq (t := 2) (tgt := 16) rfl (by decide) (by first | assumption | exact hI1 _ _ | exact hI0 _ _ | exact zin_and _ _ | (unfold zin; omega) | (unfold zin at *; omega)) (fun h4 => ?_) (fun h4 => ?_)
  · refine wp_iconst (t := 8) rfl ?_
    refine wp_ireturn (t := 9) rfl rfl ?_
    exact ⟨_, rfl, (if_pos (fun q => m1 h4 q.1)).symm, rfl, rfl⟩
  · refine wp_iload_n (t := 3) rfl rfl ?_
    refine wp_if_lt (t := 4) (tgt := 16) rfl (by decide) (by first | assumption | exact hI1 _ _ | exact hI0 _ _ | exact zin_and _ _ | (unfold zin; omega) | (unfold zin at *; omega)) (fun h8 => ?_) (fun h8 => ?_)
    · refine wp_iconst (t := 8) rfl ?_
      refine wp_ireturn (t := 9) rfl rfl ?_
      exact ⟨_, rfl, (if_pos (fun q => by omega)).symm, rfl, rfl⟩
    · refine wp_iload_n (t := 5) rfl rfl ?_
      refine wp_iconst (t := 6) rfl ?_
      refine wp_icmp_le (t := 7) (tgt := 18) rfl (by decide) (by first | assumption | exact hI1 _ _ | exact hI0 _ _ | exact zin_and _ _ | (unfold zin; omega) | (unfold zin at *; omega)) (by first | assumption | exact hI1 _ _ | exact hI0 _ _ | exact zin_and _ _ | (unfold zin; omega) | (unfold zin at *; omega)) (fun h13 => ?_) (fun h13 => ?_)
      · refine wp_aload_n (t := 10) rfl rfl ?_
        refine wp_getR (t := 11) (ji := 4) rfl fX9_40 rfl rfl (by omega) (by first | rfl | assumption) (by first | exact hW _ _ _ (by omega) rfl | assumption) ?_
        refine wp_iload_n (t := 12) rfl rfl ?_
        refine wp_iload_n (t := 13) rfl rfl ?_
        refine wp_vi (ci := 3) (c_X3_used (p := 64) (d := d) (Or.inl rfl) hW hn ⟨by omega, by omega⟩ hwh ht) (t := 14) rfl kX9_225 rfl rfl (by omega) (by first | rfl | assumption) ⟨_, _, rfl⟩ (Nat.le_of_ble_eq_true rfl) ⟨Nat.le_refl _, Nat.le_refl _⟩ (fun r24 I24 R24 c24 => ?_)
        refine wp_canon (fun hI2 => ?_)
        obtain ⟨e24, zi24, zr24⟩ := c24
        have zi24 := zi24.symm
        subst zi24
        have zr24 := zr24.symm
        subst zr24
        refine wp_ireturn (t := 15) rfl rfl ?_
        exact ⟨_, rfl, by rw [if_neg (fun q => q ⟨n1 h4, by omega, by omega⟩), e24], rfl, rfl⟩
      · refine wp_iconst (t := 8) rfl ?_
        refine wp_ireturn (t := 9) rfl rfl ?_
        exact ⟨_, rfl, (if_pos (fun q => by omega)).symm, rfl, rfl⟩
set_option maxHeartbeats 4000000 in
set_option maxRecDepth 100000 in
theorem c_X9_bound {G : zG} {d n : Nat} {I : zMem} {R : zRef} {wh : Int} (hW : zWir n R) (hn : 115 ≤ n) (hch : zCh I) (hpl : zPl I 64) (hwh : zin wh) : MT G mX9_bound (d + 6) 0 0 [zR 0, zI wh] n I R (zP1 (fun r I' R' => r = (if wh = 0 then sArea (cS I 64) else if wh = 1 then sPath (cS I 64) else if wh = 2 then sDrawn (cS I 64) else if wh = 3 then sGreat (cS I 64) else -1) ∧ (∀ b : Nat, b ≠ 71 → I' b = I b) ∧ R' = R)) := by
  refine MT.of (by decide +kernel) tX9_bound_ok (Nat.le_of_ble_eq_true rfl) (fun hI0 => ?_)
  refine wp_ls (ls' := [some (zR 0), some (zI wh)]) rfl ?_
  refine wp_iload_n (t := 0) rfl rfl ?_
  refine wp_top (fun y1 e1 => ?_)
  have z1 : zin y1 := (by first | assumption | exact hI0 _ _ | exact zin_and _ _ | (unfold zin; omega) | (unfold zin at *; omega) | (rw [e1]; first | exact hI0 _ _ | (unfold zin; omega)))
  rcases (show y1 = 0 ∨ y1 = 1 ∨ y1 = 2 ∨ y1 = 3 ∨ (y1 < 0 ∨ 3 < y1) by omega) with h1 | h1 | h1 | h1 | h1
  · refine wp_tin (0) (t := 1) (off := 31) (tgt := 32) rfl h1 z1 (by decide) (by decide) rfl (by decide) ?_
    refine wp_aload_n (t := 2) rfl rfl ?_
    refine wp_getR (t := 3) (ji := 5) rfl fX9_47 rfl rfl (by omega) (by first | rfl | assumption) (by first | exact hW _ _ _ (by omega) rfl | assumption) ?_
    refine wp_aload_n (t := 4) rfl rfl ?_
    refine wp_getR (t := 5) (ji := 4) rfl fX9_40 rfl rfl (by omega) (by first | rfl | assumption) (by first | exact hW _ _ _ (by omega) rfl | assumption) ?_
    refine wp_vi (ci := 0) (c_X0_area (o := 70) (p := 64) (d := d + 2) (Or.inl rfl) (Or.inl rfl) hW hn hch hpl) (t := 6) rfl kX9_228 rfl rfl (by omega) (by first | rfl | assumption) ⟨_, _, rfl⟩ (Nat.le_of_ble_eq_true rfl) ⟨Nat.le_refl _, Nat.le_refl _⟩ (fun r40 I40 R40 c40 => ?_)
    refine wp_canon (fun hI1 => ?_)
    obtain ⟨e40, zi40, zr40⟩ := c40
    have zi40 := zi40.symm
    subst zi40
    have zr40 := zr40.symm
    subst zr40
    refine wp_ireturn (t := 7) rfl rfl ?_
    exact ⟨_, rfl, by rw [if_pos (by omega)]; exact e40, fun _ _ => rfl, rfl⟩
  · refine wp_tin (1) (t := 1) (off := 43) (tgt := 44) rfl h1 z1 (by decide) (by decide) rfl (by decide) ?_
    refine wp_aload_n (t := 8) rfl rfl ?_
    refine wp_getR (t := 9) (ji := 5) rfl fX9_47 rfl rfl (by omega) (by first | rfl | assumption) (by first | exact hW _ _ _ (by omega) rfl | assumption) ?_
    refine wp_aload_n (t := 10) rfl rfl ?_
    refine wp_getR (t := 11) (ji := 4) rfl fX9_40 rfl rfl (by omega) (by first | rfl | assumption) (by first | exact hW _ _ _ (by omega) rfl | assumption) ?_
    refine wp_vi (ci := 0) (c_X0_path (o := 70) (p := 64) (d := d + 1) (Or.inl rfl) (Or.inl rfl) hW hn hch hpl) (t := 12) rfl kX9_232 rfl rfl (by omega) (by first | rfl | assumption) ⟨_, _, rfl⟩ (Nat.le_of_ble_eq_true rfl) ⟨Nat.le_refl _, Nat.le_refl _⟩ (fun r52 I52 R52 c52 => ?_)
    refine wp_canon (fun hI1 => ?_)
    obtain ⟨e52, f52, zr52⟩ := c52
    have zr52 := zr52.symm
    subst zr52
    refine wp_ireturn (t := 13) rfl rfl ?_
    exact ⟨_, rfl, by rw [if_neg (by omega), if_pos (by omega)]; exact e52, f52, rfl⟩
  · refine wp_tin (2) (t := 1) (off := 55) (tgt := 56) rfl h1 z1 (by decide) (by decide) rfl (by decide) ?_
    refine wp_aload_n (t := 14) rfl rfl ?_
    refine wp_getR (t := 15) (ji := 5) rfl fX9_47 rfl rfl (by omega) (by first | rfl | assumption) (by first | exact hW _ _ _ (by omega) rfl | assumption) ?_
    refine wp_aload_n (t := 16) rfl rfl ?_
    refine wp_getR (t := 17) (ji := 4) rfl fX9_40 rfl rfl (by omega) (by first | rfl | assumption) (by first | exact hW _ _ _ (by omega) rfl | assumption) ?_
    refine wp_vi (ci := 0) (c_X0_drawn (o := 70) (p := 64) (d := d + 1) (Or.inl rfl) (Or.inl rfl) hW hn hch hpl) (t := 18) rfl kX9_235 rfl rfl (by omega) (by first | rfl | assumption) ⟨_, _, rfl⟩ (Nat.le_of_ble_eq_true rfl) ⟨Nat.le_refl _, Nat.le_refl _⟩ (fun r64 I64 R64 c64 => ?_)
    refine wp_canon (fun hI1 => ?_)
    obtain ⟨e64, zi64, zr64⟩ := c64
    have zi64 := zi64.symm
    subst zi64
    have zr64 := zr64.symm
    subst zr64
    refine wp_ireturn (t := 19) rfl rfl ?_
    exact ⟨_, rfl, by rw [if_neg (by omega), if_neg (by omega), if_pos (by omega)]; exact e64, fun _ _ => rfl, rfl⟩
  · refine wp_tin (3) (t := 1) (off := 67) (tgt := 68) rfl h1 z1 (by decide) (by decide) rfl (by decide) ?_
    refine wp_aload_n (t := 20) rfl rfl ?_
    refine wp_getR (t := 21) (ji := 5) rfl fX9_47 rfl rfl (by omega) (by first | rfl | assumption) (by first | exact hW _ _ _ (by omega) rfl | assumption) ?_
    refine wp_aload_n (t := 22) rfl rfl ?_
    refine wp_getR (t := 23) (ji := 4) rfl fX9_40 rfl rfl (by omega) (by first | rfl | assumption) (by first | exact hW _ _ _ (by omega) rfl | assumption) ?_
    refine wp_vi (ci := 0) (c_X0_greatest (o := 70) (p := 64) (d := d) (Or.inl rfl) (Or.inl rfl) hW hn hch hpl) (t := 24) rfl kX9_238 rfl rfl (by omega) (by first | rfl | assumption) ⟨_, _, rfl⟩ (Nat.le_of_ble_eq_true rfl) ⟨Nat.le_refl _, Nat.le_refl _⟩ (fun r76 I76 R76 c76 => ?_)
    refine wp_canon (fun hI1 => ?_)
    obtain ⟨e76, f76, zr76⟩ := c76
    have zr76 := zr76.symm
    subst zr76
    refine wp_ireturn (t := 25) rfl rfl ?_
    exact ⟨_, rfl, by rw [if_neg (by omega), if_neg (by omega), if_neg (by omega), if_pos (by omega)]; exact e76, f76, rfl⟩
  · refine wp_tout (t := 1) (tgt := 80) rfl z1 h1 (by decide) ?_
    refine wp_iconst (t := 26) rfl ?_
    refine wp_ireturn (t := 27) rfl rfl ?_
    exact ⟨_, rfl, by rw [if_neg (by omega), if_neg (by omega), if_neg (by omega), if_neg (by omega)], fun _ _ => rfl, rfl⟩
set_option maxHeartbeats 4000000 in
set_option maxRecDepth 100000 in
theorem c_X9_kinds {G : zG} {d n : Nat} {I : zMem} {R : zRef} {c : Int} (hW : zWir n R) (hn : 115 ≤ n) (hch : zCh I) (hse : zSe I) (hc : zin c) : MT G mX9_kinds (d + 4) 0 0 [zR 0, zI c] n I R (zP1 (fun r I' R' => r = (if ¬ (0 ≤ c ∧ c < I 34 2) then -1 else zkb (fun k => decide (zmis I c k = -4)) 4) ∧ I' = I ∧ R' = R)) := by
  refine MT.of (by decide +kernel) tX9_kinds_ok (Nat.le_of_ble_eq_true rfl) (fun hI0 => ?_)
  refine wp_ls (ls' := [some (zR 0), some (zI c)]) rfl ?_
  refine wp_aload_n (t := 0) rfl rfl ?_
  refine wp_iload_n (t := 1) rfl rfl ?_
  refine wp_vi (ci := 9) (c_X9_isCore (d := d + 3) hW hn hc) (t := 2) rfl kX9_116 rfl rfl (by omega) (by first | rfl | assumption) ⟨_, _, rfl⟩ (Nat.le_of_ble_eq_true rfl) ⟨Nat.le_refl _, Nat.le_refl _⟩ (fun r2 I2 R2 c2 => ?_)
  refine wp_canon (fun hI1 => ?_)
  obtain ⟨e2, zi2, zr2⟩ := c2
  have zi2 := zi2.symm
  subst zi2
  have zr2 := zr2.symm
  subst zr2
  have b2 : 0 ≤ r2 ∧ r2 ≤ 1 := by rw [e2]; split <;> omega
  have n2 : ¬ r2 = 0 → 0 ≤ c ∧ c < I 34 2 := fun h => by (rw [e2] at h; by_cases q : 0 ≤ c ∧ c < I 34 2; exact q; rw [if_neg q] at h; exact absurd rfl h)
  have m2 : r2 = 0 → ¬ (0 ≤ c ∧ c < I 34 2) := fun h q => by (rw [e2, if_pos q] at h; exact absurd h (by decide))
  refine wp_if_ne (t := 3) (tgt := 10) rfl (by decide) (by first | assumption | exact hI1 _ _ | exact hI0 _ _ | exact zin_and _ _ | (unfold zin; omega) | (unfold zin at *; omega)) (fun h5 => ?_) (fun h5 => ?_)
  · refine wp_aload_n (t := 6) rfl rfl ?_
    refine wp_getR (t := 7) (ji := 11) rfl fX9_84 rfl rfl (by omega) (by first | rfl | assumption) (by first | exact hW _ _ _ (by omega) rfl | assumption) ?_
    refine wp_iload_n (t := 8) rfl rfl ?_
    refine wp_vi (ci := 7) (c_X7_kindsOf (d := d) hW hn hch hse (n2 h5)) (t := 9) rfl kX9_256 rfl rfl (by omega) (by first | rfl | assumption) ⟨_, _, rfl⟩ (Nat.le_of_ble_eq_true rfl) ⟨Nat.le_refl _, Nat.le_refl _⟩ (fun r15 I15 R15 c15 => ?_)
    refine wp_canon (fun hI2 => ?_)
    obtain ⟨e15, zi15, zr15⟩ := c15
    have zi15 := zi15.symm
    subst zi15
    have zr15 := zr15.symm
    subst zr15
    refine wp_ireturn (t := 10) rfl rfl ?_
    exact ⟨_, rfl, by rw [if_neg (fun q => q (n2 h5)), e15], rfl, rfl⟩
  · refine wp_iconst (t := 4) rfl ?_
    refine wp_ireturn (t := 5) rfl rfl ?_
    exact ⟨_, rfl, (if_pos (m2 (by omega))).symm, rfl, rfl⟩
set_option maxHeartbeats 4000000 in
set_option maxRecDepth 100000 in
theorem c_X9_seen {G : zG} {d n : Nat} {I : zMem} {R : zRef} {c w t : Int} (hW : zWir n R) (hn : 115 ≤ n) (hse : 0 ≤ I 111 4 ∧ I 111 4 ≤ 6) (hc : zin c) (hw : zin w) (ht : zin t) : MT G mX9_seen (d + 1) 0 0 [zR 0, zI c, zI w, zI t] n I R (zP1 (fun r I' R' => ((¬ ((0 ≤ c ∧ c < I 34 2) ∧ (1 ≤ w ∧ w ≤ I 34 0) ∧ 1 ≤ t ∧ t ≤ 9999) ∧ r = -1 ∧ I' = I) ∨ (((0 ≤ c ∧ c < I 34 2) ∧ (1 ≤ w ∧ w ≤ I 34 0) ∧ 1 ≤ t ∧ t ≤ 9999) ∧ ((I 111 4 = 6 ∧ r = -3 ∧ I' = I) ∨ (I 111 4 < 6 ∧ r = I 111 4 + 1 ∧ I' = zu (zu (zu (zu I 112 (I 111 4) c) 113 (I 111 4) w) 114 (I 111 4) t) 111 4 (I 111 4 + 1))))) ∧ R' = R)) := by
  refine MT.of (by decide +kernel) tX9_seen_ok (Nat.le_of_ble_eq_true rfl) (fun hI0 => ?_)
  refine wp_ls (ls' := [some (zR 0), some (zI c), some (zI w), some (zI t)]) rfl ?_
  refine wp_aload_n (t := 0) rfl rfl ?_
  refine wp_iload_n (t := 1) rfl rfl ?_
  refine wp_vi (ci := 9) (c_X9_isCore (d := d) hW hn hc) (t := 2) rfl kX9_116 rfl rfl (by omega) (by first | rfl | assumption) ⟨_, _, rfl⟩ (Nat.le_of_ble_eq_true rfl) ⟨Nat.le_refl _, Nat.le_refl _⟩ (fun r2 I2 R2 c2 => ?_)
  refine wp_canon (fun hI1 => ?_)
  obtain ⟨e2, zi2, zr2⟩ := c2
  have zi2 := zi2.symm
  subst zi2
  have zr2 := zr2.symm
  subst zr2
  have b2 : 0 ≤ r2 ∧ r2 ≤ 1 := by rw [e2]; split <;> omega
  have n2 : ¬ r2 = 0 → 0 ≤ c ∧ c < I 34 2 := fun h => by (rw [e2] at h; by_cases q : 0 ≤ c ∧ c < I 34 2; exact q; rw [if_neg q] at h; exact absurd rfl h)
  have m2 : r2 = 0 → ¬ (0 ≤ c ∧ c < I 34 2) := fun h q => by (rw [e2, if_pos q] at h; exact absurd h (by decide))
  refine wp_if_eq (t := 3) (tgt := 28) rfl (by decide) (by first | assumption | exact hI1 _ _ | exact hI0 _ _ | exact zin_and _ _ | (unfold zin; omega) | (unfold zin at *; omega)) (fun h5 => ?_) (fun h5 => ?_)
  · refine wp_iconst (t := 14) rfl ?_
    refine wp_ireturn (t := 15) rfl rfl ?_
    exact ⟨_, rfl, Or.inl ⟨fun q => m2 h5 q.1, rfl, rfl⟩, rfl⟩
  · refine wp_aload_n (t := 4) rfl rfl ?_
    refine wp_iload_n (t := 5) rfl rfl ?_
    refine wp_vi (ci := 9) (c_X9_isWidth (d := d) hW hn hw) (t := 6) rfl kX9_149 rfl rfl (by omega) (by first | rfl | assumption) ⟨_, _, rfl⟩ (Nat.le_of_ble_eq_true rfl) ⟨Nat.le_refl _, Nat.le_refl _⟩ (fun r10 I10 R10 c10 => ?_)
    refine wp_canon (fun hI2 => ?_)
    obtain ⟨e10, zi10, zr10⟩ := c10
    have zi10 := zi10.symm
    subst zi10
    have zr10 := zr10.symm
    subst zr10
    have b10 : 0 ≤ r10 ∧ r10 ≤ 1 := by rw [e10]; split <;> omega
    have n10 : ¬ r10 = 0 → 1 ≤ w ∧ w ≤ I 34 0 := fun h => by (rw [e10] at h; by_cases q : 1 ≤ w ∧ w ≤ I 34 0; exact q; rw [if_neg q] at h; exact absurd rfl h)
    have m10 : r10 = 0 → ¬ (1 ≤ w ∧ w ≤ I 34 0) := fun h q => by (rw [e10, if_pos q] at h; exact absurd h (by decide))
    refine wp_if_eq (t := 7) (tgt := 28) rfl (by decide) (by first | assumption | exact hI2 _ _ | exact hI1 _ _ | exact hI0 _ _ | exact zin_and _ _ | (unfold zin; omega) | (unfold zin at *; omega)) (fun h13 => ?_) (fun h13 => ?_)
    · refine wp_iconst (t := 14) rfl ?_
      refine wp_ireturn (t := 15) rfl rfl ?_
      exact ⟨_, rfl, Or.inl ⟨fun q => m10 h13 q.2.1, rfl, rfl⟩, rfl⟩
    · refine wp_iload_n (t := 8) rfl rfl ?_
      refine wp_iconst (t := 9) rfl ?_
      refine wp_icmp_lt (t := 10) (tgt := 28) rfl (by decide) (by first | assumption | exact hI2 _ _ | exact hI1 _ _ | exact hI0 _ _ | exact zin_and _ _ | (unfold zin; omega) | (unfold zin at *; omega)) (by first | assumption | exact hI2 _ _ | exact hI1 _ _ | exact hI0 _ _ | exact zin_and _ _ | (unfold zin; omega) | (unfold zin at *; omega)) (fun h18 => ?_) (fun h18 => ?_)
      · refine wp_iconst (t := 14) rfl ?_
        refine wp_ireturn (t := 15) rfl rfl ?_
        exact ⟨_, rfl, Or.inl ⟨fun q => by omega, rfl, rfl⟩, rfl⟩
      · refine wp_iload_n (t := 11) rfl rfl ?_
        refine wp_sipush (t := 12) rfl (by decide) ?_
        refine wp_icmp_le (t := 13) (tgt := 30) rfl (by decide) (by first | assumption | exact hI2 _ _ | exact hI1 _ _ | exact hI0 _ _ | exact zin_and _ _ | (unfold zin; omega) | (unfold zin at *; omega)) (by first | assumption | exact hI2 _ _ | exact hI1 _ _ | exact hI0 _ _ | exact zin_and _ _ | (unfold zin; omega) | (unfold zin at *; omega)) (fun h25 => ?_) (fun h25 => ?_)
        · refine wp_aload_n (t := 16) rfl rfl ?_
          refine wp_getR (t := 17) (ji := 11) rfl fX9_84 rfl rfl (by omega) (by first | rfl | assumption) (by first | exact hW _ _ _ (by omega) rfl | assumption) ?_
          refine wp_getI (t := 18) (ji := 4) rfl fX9_252 rfl rfl (by omega) (by first | rfl | assumption) ?_
          refine wp_bipush (t := 19) rfl (by decide) ?_
          refine wp_icmp_lt (t := 20) (tgt := 45) rfl (by decide) (by first | assumption | exact hI2 _ _ | exact hI1 _ _ | exact hI0 _ _ | exact zin_and _ _ | (unfold zin; omega) | (unfold zin at *; omega)) (by first | assumption | exact hI2 _ _ | exact hI1 _ _ | exact hI0 _ _ | exact zin_and _ _ | (unfold zin; omega) | (unfold zin at *; omega)) (fun h39 => ?_) (fun h39 => ?_)
          · refine wp_aload_n (t := 23) rfl rfl ?_
            refine wp_getR (t := 24) (ji := 11) rfl fX9_84 rfl rfl (by omega) (by first | rfl | assumption) (by first | exact hW _ _ _ (by omega) rfl | assumption) ?_
            refine wp_iload_n (t := 25) rfl rfl ?_
            refine wp_iload_n (t := 26) rfl rfl ?_
            refine wp_iload_n (t := 27) rfl rfl ?_
            refine wp_vv (ci := 7) (c_X7_add (d := d) hW hn ⟨by omega, by omega⟩ hc hw ht) (t := 28) rfl kX9_253 rfl rfl (by omega) (by first | rfl | assumption) ⟨_, _, rfl⟩ (Nat.le_of_ble_eq_true rfl) ⟨Nat.le_refl _, Nat.le_refl _⟩ (fun I52 R52 c52 => ?_)
            refine wp_canon (fun hI3 => ?_)
            obtain ⟨zi52, zr52⟩ := c52
            have zr52 := zr52.symm
            subst zr52
            subst zi52
            refine wp_aload_n (t := 29) rfl rfl ?_
            refine wp_getR (t := 30) (ji := 11) rfl fX9_84 rfl rfl (by omega) (by first | rfl | assumption) (by first | exact hW _ _ _ (by omega) rfl | assumption) ?_
            refine wp_getI (t := 31) (ji := 4) rfl fX9_252 rfl rfl (by omega) (by first | rfl | assumption) ?_
            rw [zu_eq]
            refine wp_ireturn (t := 32) rfl rfl ?_
            exact ⟨_, rfl, Or.inr ⟨⟨n2 h5, n10 h13, by omega, by omega⟩, Or.inr ⟨by omega, rfl, rfl⟩⟩, rfl⟩
          · refine wp_bipush (t := 21) rfl (by decide) ?_
            refine wp_ireturn (t := 22) rfl rfl ?_
            exact ⟨_, rfl, Or.inr ⟨⟨n2 h5, n10 h13, by omega, by omega⟩, Or.inl ⟨by omega, rfl, rfl⟩⟩, rfl⟩
        · refine wp_iconst (t := 14) rfl ?_
          refine wp_ireturn (t := 15) rfl rfl ?_
          exact ⟨_, rfl, Or.inl ⟨fun q => by omega, rfl, rfl⟩, rfl⟩
set_option maxHeartbeats 4000000 in
set_option maxRecDepth 100000 in
theorem c_X9_forget {G : zG} {d n : Nat} {I : zMem} {R : zRef} (hW : zWir n R) (hn : 115 ≤ n) : MT G mX9_forget (d + 1) 0 0 [zR 0] n I R (zP1 (fun r I' R' => (r = I 111 4 ∧ I' = zu I 111 4 0) ∧ R' = R)) := by
  refine MT.of (by decide +kernel) tX9_forget_ok (Nat.le_of_ble_eq_true rfl) (fun hI0 => ?_)
  refine wp_ls (ls' := [some (zR 0), none]) rfl ?_
  refine wp_aload_n (t := 0) rfl rfl ?_
  refine wp_getR (t := 1) (ji := 11) rfl fX9_84 rfl rfl (by omega) (by first | rfl | assumption) (by first | exact hW _ _ _ (by omega) rfl | assumption) ?_
  refine wp_getI (t := 2) (ji := 4) rfl fX9_252 rfl rfl (by omega) (by first | rfl | assumption) ?_
  refine wp_istore_n (t := 3) rfl (by decide) rfl ?_
  refine wp_aload_n (t := 4) rfl rfl ?_
  refine wp_getR (t := 5) (ji := 11) rfl fX9_84 rfl rfl (by omega) (by first | rfl | assumption) (by first | exact hW _ _ _ (by omega) rfl | assumption) ?_
  refine wp_vv (ci := 7) (c_X7_clear (d := d) hn) (t := 6) rfl kX9_255 rfl rfl (by omega) (by first | rfl | assumption) ⟨_, _, rfl⟩ (Nat.le_of_ble_eq_true rfl) ⟨Nat.le_refl _, Nat.le_refl _⟩ (fun I12 R12 c12 => ?_)
  refine wp_canon (fun hI1 => ?_)
  obtain ⟨zi12, zr12⟩ := c12
  have zr12 := zr12.symm
  subst zr12
  refine wp_iload_n (t := 7) rfl rfl ?_
  refine wp_ireturn (t := 8) rfl rfl ?_
  exact ⟨_, rfl, ⟨rfl, zi12⟩, rfl⟩
def cCount (I : zMem) (wh : Int) : Int := if wh = 0 then I 34 2 else if wh = 1 then I 34 3 else if wh = 2 then I 34 0 else if wh = 3 then I 34 1 else if wh = 4 then zsum (fun c => if 0 < I 66 c then 1 else 0) (I 34 2).toNat else if wh = 5 then sLen (cS I 64) (I 34 2).toNat else if wh = 6 then I 111 4 else if wh = 7 then I 95 1 else if wh = 8 then I 105 1 else if wh = 9 then I 1 1 else -1
set_option maxHeartbeats 4000000 in
set_option maxRecDepth 100000 in
theorem c_X9_count {G : zG} {d n : Nat} {I : zMem} {R : zRef} {wh : Int} (hW : zWir n R) (hn : 115 ≤ n) (hch : zCh I) (hpl : zPl I 64) (hwh : zin wh) : MT G mX9_count (d + 2) 0 0 [zR 0, zI wh] n I R (zP1 (fun r I' R' => r = cCount I wh ∧ I' = I ∧ R' = R)) := by
  refine MT.of (by decide +kernel) tX9_count_ok (Nat.le_of_ble_eq_true rfl) (fun hI0 => ?_)
  have hco := hch.1
  refine wp_ls (ls' := [some (zR 0), some (zI wh)]) rfl ?_
  refine wp_iload_n (t := 0) rfl rfl ?_
  refine wp_top (fun y1 e1 => ?_)
  have z1 : zin y1 := (by first | assumption | exact hI0 _ _ | exact zin_and _ _ | (unfold zin; omega) | (unfold zin at *; omega) | (rw [e1]; first | exact hI0 _ _ | (unfold zin; omega)))
  rcases (show y1 = 0 ∨ y1 = 1 ∨ y1 = 2 ∨ y1 = 3 ∨ y1 = 4 ∨ y1 = 5 ∨ y1 = 6 ∨ y1 = 7 ∨ y1 = 8 ∨ y1 = 9 ∨ (y1 < 0 ∨ 9 < y1) by omega) with h1 | h1 | h1 | h1 | h1 | h1 | h1 | h1 | h1 | h1 | h1
  · refine wp_tin (0) (t := 1) (off := 55) (tgt := 56) rfl h1 z1 (by decide) (by decide) rfl (by decide) ?_
    refine wp_aload_n (t := 2) rfl rfl ?_
    refine wp_getR (t := 3) (ji := 3) rfl fX9_32 rfl rfl (by omega) (by first | rfl | assumption) (by first | exact hW _ _ _ (by omega) rfl | assumption) ?_
    refine wp_getI (t := 4) (ji := 2) rfl fX9_194 rfl rfl (by omega) (by first | rfl | assumption) ?_
    refine wp_ireturn (t := 5) rfl rfl ?_
    refine ⟨_, rfl, ?_, rfl, rfl⟩
    unfold cCount
    first
      | rw [if_pos (by omega)]
      | rw [if_neg (by omega), if_pos (by omega)]
      | rw [if_neg (by omega), if_neg (by omega), if_pos (by omega)]
      | rw [if_neg (by omega), if_neg (by omega), if_neg (by omega), if_pos (by omega)]
      | (rw [if_neg (by omega), if_neg (by omega), if_neg (by omega), if_neg (by omega), if_pos (by omega)]; exact e92)
      | (rw [if_neg (by omega), if_neg (by omega), if_neg (by omega), if_neg (by omega), if_neg (by omega), if_pos (by omega)]; exact e100)
      | rw [if_neg (by omega), if_neg (by omega), if_neg (by omega), if_neg (by omega), if_neg (by omega), if_neg (by omega), if_pos (by omega)]
      | rw [if_neg (by omega), if_neg (by omega), if_neg (by omega), if_neg (by omega), if_neg (by omega), if_neg (by omega), if_neg (by omega), if_pos (by omega)]
      | rw [if_neg (by omega), if_neg (by omega), if_neg (by omega), if_neg (by omega), if_neg (by omega), if_neg (by omega), if_neg (by omega), if_neg (by omega), if_pos (by omega)]
      | rw [if_neg (by omega), if_neg (by omega), if_neg (by omega), if_neg (by omega), if_neg (by omega), if_neg (by omega), if_neg (by omega), if_neg (by omega), if_neg (by omega), if_pos (by omega)]
      | rw [if_neg (by omega), if_neg (by omega), if_neg (by omega), if_neg (by omega), if_neg (by omega), if_neg (by omega), if_neg (by omega), if_neg (by omega), if_neg (by omega), if_neg (by omega)]
  · refine wp_tin (1) (t := 1) (off := 63) (tgt := 64) rfl h1 z1 (by decide) (by decide) rfl (by decide) ?_
    refine wp_aload_n (t := 6) rfl rfl ?_
    refine wp_getR (t := 7) (ji := 3) rfl fX9_32 rfl rfl (by omega) (by first | rfl | assumption) (by first | exact hW _ _ _ (by omega) rfl | assumption) ?_
    refine wp_getI (t := 8) (ji := 3) rfl fX9_248 rfl rfl (by omega) (by first | rfl | assumption) ?_
    refine wp_ireturn (t := 9) rfl rfl ?_
    refine ⟨_, rfl, ?_, rfl, rfl⟩
    unfold cCount
    first
      | rw [if_pos (by omega)]
      | rw [if_neg (by omega), if_pos (by omega)]
      | rw [if_neg (by omega), if_neg (by omega), if_pos (by omega)]
      | rw [if_neg (by omega), if_neg (by omega), if_neg (by omega), if_pos (by omega)]
      | (rw [if_neg (by omega), if_neg (by omega), if_neg (by omega), if_neg (by omega), if_pos (by omega)]; exact e92)
      | (rw [if_neg (by omega), if_neg (by omega), if_neg (by omega), if_neg (by omega), if_neg (by omega), if_pos (by omega)]; exact e100)
      | rw [if_neg (by omega), if_neg (by omega), if_neg (by omega), if_neg (by omega), if_neg (by omega), if_neg (by omega), if_pos (by omega)]
      | rw [if_neg (by omega), if_neg (by omega), if_neg (by omega), if_neg (by omega), if_neg (by omega), if_neg (by omega), if_neg (by omega), if_pos (by omega)]
      | rw [if_neg (by omega), if_neg (by omega), if_neg (by omega), if_neg (by omega), if_neg (by omega), if_neg (by omega), if_neg (by omega), if_neg (by omega), if_pos (by omega)]
      | rw [if_neg (by omega), if_neg (by omega), if_neg (by omega), if_neg (by omega), if_neg (by omega), if_neg (by omega), if_neg (by omega), if_neg (by omega), if_neg (by omega), if_pos (by omega)]
      | rw [if_neg (by omega), if_neg (by omega), if_neg (by omega), if_neg (by omega), if_neg (by omega), if_neg (by omega), if_neg (by omega), if_neg (by omega), if_neg (by omega), if_neg (by omega)]
  · refine wp_tin (2) (t := 1) (off := 71) (tgt := 72) rfl h1 z1 (by decide) (by decide) rfl (by decide) ?_
    refine wp_aload_n (t := 10) rfl rfl ?_
    refine wp_getR (t := 11) (ji := 3) rfl fX9_32 rfl rfl (by omega) (by first | rfl | assumption) (by first | exact hW _ _ _ (by omega) rfl | assumption) ?_
    refine wp_getI (t := 12) (ji := 0) rfl fX9_260 rfl rfl (by omega) (by first | rfl | assumption) ?_
    refine wp_ireturn (t := 13) rfl rfl ?_
    refine ⟨_, rfl, ?_, rfl, rfl⟩
    unfold cCount
    first
      | rw [if_pos (by omega)]
      | rw [if_neg (by omega), if_pos (by omega)]
      | rw [if_neg (by omega), if_neg (by omega), if_pos (by omega)]
      | rw [if_neg (by omega), if_neg (by omega), if_neg (by omega), if_pos (by omega)]
      | (rw [if_neg (by omega), if_neg (by omega), if_neg (by omega), if_neg (by omega), if_pos (by omega)]; exact e92)
      | (rw [if_neg (by omega), if_neg (by omega), if_neg (by omega), if_neg (by omega), if_neg (by omega), if_pos (by omega)]; exact e100)
      | rw [if_neg (by omega), if_neg (by omega), if_neg (by omega), if_neg (by omega), if_neg (by omega), if_neg (by omega), if_pos (by omega)]
      | rw [if_neg (by omega), if_neg (by omega), if_neg (by omega), if_neg (by omega), if_neg (by omega), if_neg (by omega), if_neg (by omega), if_pos (by omega)]
      | rw [if_neg (by omega), if_neg (by omega), if_neg (by omega), if_neg (by omega), if_neg (by omega), if_neg (by omega), if_neg (by omega), if_neg (by omega), if_pos (by omega)]
      | rw [if_neg (by omega), if_neg (by omega), if_neg (by omega), if_neg (by omega), if_neg (by omega), if_neg (by omega), if_neg (by omega), if_neg (by omega), if_neg (by omega), if_pos (by omega)]
      | rw [if_neg (by omega), if_neg (by omega), if_neg (by omega), if_neg (by omega), if_neg (by omega), if_neg (by omega), if_neg (by omega), if_neg (by omega), if_neg (by omega), if_neg (by omega)]
  · refine wp_tin (3) (t := 1) (off := 79) (tgt := 80) rfl h1 z1 (by decide) (by decide) rfl (by decide) ?_
    refine wp_aload_n (t := 14) rfl rfl ?_
    refine wp_getR (t := 15) (ji := 3) rfl fX9_32 rfl rfl (by omega) (by first | rfl | assumption) (by first | exact hW _ _ _ (by omega) rfl | assumption) ?_
    refine wp_getI (t := 16) (ji := 1) rfl fX9_263 rfl rfl (by omega) (by first | rfl | assumption) ?_
    refine wp_ireturn (t := 17) rfl rfl ?_
    refine ⟨_, rfl, ?_, rfl, rfl⟩
    unfold cCount
    first
      | rw [if_pos (by omega)]
      | rw [if_neg (by omega), if_pos (by omega)]
      | rw [if_neg (by omega), if_neg (by omega), if_pos (by omega)]
      | rw [if_neg (by omega), if_neg (by omega), if_neg (by omega), if_pos (by omega)]
      | (rw [if_neg (by omega), if_neg (by omega), if_neg (by omega), if_neg (by omega), if_pos (by omega)]; exact e92)
      | (rw [if_neg (by omega), if_neg (by omega), if_neg (by omega), if_neg (by omega), if_neg (by omega), if_pos (by omega)]; exact e100)
      | rw [if_neg (by omega), if_neg (by omega), if_neg (by omega), if_neg (by omega), if_neg (by omega), if_neg (by omega), if_pos (by omega)]
      | rw [if_neg (by omega), if_neg (by omega), if_neg (by omega), if_neg (by omega), if_neg (by omega), if_neg (by omega), if_neg (by omega), if_pos (by omega)]
      | rw [if_neg (by omega), if_neg (by omega), if_neg (by omega), if_neg (by omega), if_neg (by omega), if_neg (by omega), if_neg (by omega), if_neg (by omega), if_pos (by omega)]
      | rw [if_neg (by omega), if_neg (by omega), if_neg (by omega), if_neg (by omega), if_neg (by omega), if_neg (by omega), if_neg (by omega), if_neg (by omega), if_neg (by omega), if_pos (by omega)]
      | rw [if_neg (by omega), if_neg (by omega), if_neg (by omega), if_neg (by omega), if_neg (by omega), if_neg (by omega), if_neg (by omega), if_neg (by omega), if_neg (by omega), if_neg (by omega)]
  · refine wp_tin (4) (t := 1) (off := 87) (tgt := 88) rfl h1 z1 (by decide) (by decide) rfl (by decide) ?_
    refine wp_aload_n (t := 18) rfl rfl ?_
    refine wp_getR (t := 19) (ji := 4) rfl fX9_40 rfl rfl (by omega) (by first | rfl | assumption) (by first | exact hW _ _ _ (by omega) rfl | assumption) ?_
    refine wp_vi (ci := 3) (c_X3_manyPut (p := 64) (d := d) (Or.inl rfl) hW hn ⟨by omega, by omega⟩) (t := 20) rfl kX9_266 rfl rfl (by omega) (by first | rfl | assumption) ⟨_, _, rfl⟩ (Nat.le_of_ble_eq_true rfl) ⟨Nat.le_refl _, Nat.le_refl _⟩ (fun r92 I92 R92 c92 => ?_)
    refine wp_canon (fun hI1 => ?_)
    obtain ⟨e92, zi92, zr92⟩ := c92
    have zi92 := zi92.symm
    subst zi92
    have zr92 := zr92.symm
    subst zr92
    refine wp_ireturn (t := 21) rfl rfl ?_
    refine ⟨_, rfl, ?_, rfl, rfl⟩
    unfold cCount
    first
      | rw [if_pos (by omega)]
      | rw [if_neg (by omega), if_pos (by omega)]
      | rw [if_neg (by omega), if_neg (by omega), if_pos (by omega)]
      | rw [if_neg (by omega), if_neg (by omega), if_neg (by omega), if_pos (by omega)]
      | (rw [if_neg (by omega), if_neg (by omega), if_neg (by omega), if_neg (by omega), if_pos (by omega)]; exact e92)
      | (rw [if_neg (by omega), if_neg (by omega), if_neg (by omega), if_neg (by omega), if_neg (by omega), if_pos (by omega)]; exact e100)
      | rw [if_neg (by omega), if_neg (by omega), if_neg (by omega), if_neg (by omega), if_neg (by omega), if_neg (by omega), if_pos (by omega)]
      | rw [if_neg (by omega), if_neg (by omega), if_neg (by omega), if_neg (by omega), if_neg (by omega), if_neg (by omega), if_neg (by omega), if_pos (by omega)]
      | rw [if_neg (by omega), if_neg (by omega), if_neg (by omega), if_neg (by omega), if_neg (by omega), if_neg (by omega), if_neg (by omega), if_neg (by omega), if_pos (by omega)]
      | rw [if_neg (by omega), if_neg (by omega), if_neg (by omega), if_neg (by omega), if_neg (by omega), if_neg (by omega), if_neg (by omega), if_neg (by omega), if_neg (by omega), if_pos (by omega)]
      | rw [if_neg (by omega), if_neg (by omega), if_neg (by omega), if_neg (by omega), if_neg (by omega), if_neg (by omega), if_neg (by omega), if_neg (by omega), if_neg (by omega), if_neg (by omega)]
  · refine wp_tin (5) (t := 1) (off := 95) (tgt := 96) rfl h1 z1 (by decide) (by decide) rfl (by decide) ?_
    refine wp_aload_n (t := 22) rfl rfl ?_
    refine wp_getR (t := 23) (ji := 4) rfl fX9_40 rfl rfl (by omega) (by first | rfl | assumption) (by first | exact hW _ _ _ (by omega) rfl | assumption) ?_
    refine wp_vi (ci := 3) (c_X3_length (p := 64) (d := d) (Or.inl rfl) hW hn ⟨by omega, by omega⟩ (fun c c0 c1 => (hpl c c0 c1).2.2.2.1)) (t := 24) rfl kX9_186 rfl rfl (by omega) (by first | rfl | assumption) ⟨_, _, rfl⟩ (Nat.le_of_ble_eq_true rfl) ⟨Nat.le_refl _, Nat.le_refl _⟩ (fun r100 I100 R100 c100 => ?_)
    refine wp_canon (fun hI1 => ?_)
    obtain ⟨e100, zi100, zr100⟩ := c100
    have zi100 := zi100.symm
    subst zi100
    have zr100 := zr100.symm
    subst zr100
    refine wp_ireturn (t := 25) rfl rfl ?_
    refine ⟨_, rfl, ?_, rfl, rfl⟩
    unfold cCount
    first
      | rw [if_pos (by omega)]
      | rw [if_neg (by omega), if_pos (by omega)]
      | rw [if_neg (by omega), if_neg (by omega), if_pos (by omega)]
      | rw [if_neg (by omega), if_neg (by omega), if_neg (by omega), if_pos (by omega)]
      | (rw [if_neg (by omega), if_neg (by omega), if_neg (by omega), if_neg (by omega), if_pos (by omega)]; exact e92)
      | (rw [if_neg (by omega), if_neg (by omega), if_neg (by omega), if_neg (by omega), if_neg (by omega), if_pos (by omega)]; exact e100)
      | rw [if_neg (by omega), if_neg (by omega), if_neg (by omega), if_neg (by omega), if_neg (by omega), if_neg (by omega), if_pos (by omega)]
      | rw [if_neg (by omega), if_neg (by omega), if_neg (by omega), if_neg (by omega), if_neg (by omega), if_neg (by omega), if_neg (by omega), if_pos (by omega)]
      | rw [if_neg (by omega), if_neg (by omega), if_neg (by omega), if_neg (by omega), if_neg (by omega), if_neg (by omega), if_neg (by omega), if_neg (by omega), if_pos (by omega)]
      | rw [if_neg (by omega), if_neg (by omega), if_neg (by omega), if_neg (by omega), if_neg (by omega), if_neg (by omega), if_neg (by omega), if_neg (by omega), if_neg (by omega), if_pos (by omega)]
      | rw [if_neg (by omega), if_neg (by omega), if_neg (by omega), if_neg (by omega), if_neg (by omega), if_neg (by omega), if_neg (by omega), if_neg (by omega), if_neg (by omega), if_neg (by omega)]
  · refine wp_tin (6) (t := 1) (off := 103) (tgt := 104) rfl h1 z1 (by decide) (by decide) rfl (by decide) ?_
    refine wp_aload_n (t := 26) rfl rfl ?_
    refine wp_getR (t := 27) (ji := 11) rfl fX9_84 rfl rfl (by omega) (by first | rfl | assumption) (by first | exact hW _ _ _ (by omega) rfl | assumption) ?_
    refine wp_getI (t := 28) (ji := 4) rfl fX9_252 rfl rfl (by omega) (by first | rfl | assumption) ?_
    refine wp_ireturn (t := 29) rfl rfl ?_
    refine ⟨_, rfl, ?_, rfl, rfl⟩
    unfold cCount
    first
      | rw [if_pos (by omega)]
      | rw [if_neg (by omega), if_pos (by omega)]
      | rw [if_neg (by omega), if_neg (by omega), if_pos (by omega)]
      | rw [if_neg (by omega), if_neg (by omega), if_neg (by omega), if_pos (by omega)]
      | (rw [if_neg (by omega), if_neg (by omega), if_neg (by omega), if_neg (by omega), if_pos (by omega)]; exact e92)
      | (rw [if_neg (by omega), if_neg (by omega), if_neg (by omega), if_neg (by omega), if_neg (by omega), if_pos (by omega)]; exact e100)
      | rw [if_neg (by omega), if_neg (by omega), if_neg (by omega), if_neg (by omega), if_neg (by omega), if_neg (by omega), if_pos (by omega)]
      | rw [if_neg (by omega), if_neg (by omega), if_neg (by omega), if_neg (by omega), if_neg (by omega), if_neg (by omega), if_neg (by omega), if_pos (by omega)]
      | rw [if_neg (by omega), if_neg (by omega), if_neg (by omega), if_neg (by omega), if_neg (by omega), if_neg (by omega), if_neg (by omega), if_neg (by omega), if_pos (by omega)]
      | rw [if_neg (by omega), if_neg (by omega), if_neg (by omega), if_neg (by omega), if_neg (by omega), if_neg (by omega), if_neg (by omega), if_neg (by omega), if_neg (by omega), if_pos (by omega)]
      | rw [if_neg (by omega), if_neg (by omega), if_neg (by omega), if_neg (by omega), if_neg (by omega), if_neg (by omega), if_neg (by omega), if_neg (by omega), if_neg (by omega), if_neg (by omega)]
  · refine wp_tin (7) (t := 1) (off := 111) (tgt := 112) rfl h1 z1 (by decide) (by decide) rfl (by decide) ?_
    refine wp_aload_n (t := 30) rfl rfl ?_
    refine wp_getR (t := 31) (ji := 8) rfl fX9_67 rfl rfl (by omega) (by first | rfl | assumption) (by first | exact hW _ _ _ (by omega) rfl | assumption) ?_
    refine wp_getI (t := 32) (ji := 1) rfl fX9_213 rfl rfl (by omega) (by first | rfl | assumption) ?_
    refine wp_ireturn (t := 33) rfl rfl ?_
    refine ⟨_, rfl, ?_, rfl, rfl⟩
    unfold cCount
    first
      | rw [if_pos (by omega)]
      | rw [if_neg (by omega), if_pos (by omega)]
      | rw [if_neg (by omega), if_neg (by omega), if_pos (by omega)]
      | rw [if_neg (by omega), if_neg (by omega), if_neg (by omega), if_pos (by omega)]
      | (rw [if_neg (by omega), if_neg (by omega), if_neg (by omega), if_neg (by omega), if_pos (by omega)]; exact e92)
      | (rw [if_neg (by omega), if_neg (by omega), if_neg (by omega), if_neg (by omega), if_neg (by omega), if_pos (by omega)]; exact e100)
      | rw [if_neg (by omega), if_neg (by omega), if_neg (by omega), if_neg (by omega), if_neg (by omega), if_neg (by omega), if_pos (by omega)]
      | rw [if_neg (by omega), if_neg (by omega), if_neg (by omega), if_neg (by omega), if_neg (by omega), if_neg (by omega), if_neg (by omega), if_pos (by omega)]
      | rw [if_neg (by omega), if_neg (by omega), if_neg (by omega), if_neg (by omega), if_neg (by omega), if_neg (by omega), if_neg (by omega), if_neg (by omega), if_pos (by omega)]
      | rw [if_neg (by omega), if_neg (by omega), if_neg (by omega), if_neg (by omega), if_neg (by omega), if_neg (by omega), if_neg (by omega), if_neg (by omega), if_neg (by omega), if_pos (by omega)]
      | rw [if_neg (by omega), if_neg (by omega), if_neg (by omega), if_neg (by omega), if_neg (by omega), if_neg (by omega), if_neg (by omega), if_neg (by omega), if_neg (by omega), if_neg (by omega)]
  · refine wp_tin (8) (t := 1) (off := 119) (tgt := 120) rfl h1 z1 (by decide) (by decide) rfl (by decide) ?_
    refine wp_aload_n (t := 34) rfl rfl ?_
    refine wp_getR (t := 35) (ji := 9) rfl fX9_71 rfl rfl (by omega) (by first | rfl | assumption) (by first | exact hW _ _ _ (by omega) rfl | assumption) ?_
    refine wp_getI (t := 36) (ji := 1) rfl fX9_213 rfl rfl (by omega) (by first | rfl | assumption) ?_
    refine wp_ireturn (t := 37) rfl rfl ?_
    refine ⟨_, rfl, ?_, rfl, rfl⟩
    unfold cCount
    first
      | rw [if_pos (by omega)]
      | rw [if_neg (by omega), if_pos (by omega)]
      | rw [if_neg (by omega), if_neg (by omega), if_pos (by omega)]
      | rw [if_neg (by omega), if_neg (by omega), if_neg (by omega), if_pos (by omega)]
      | (rw [if_neg (by omega), if_neg (by omega), if_neg (by omega), if_neg (by omega), if_pos (by omega)]; exact e92)
      | (rw [if_neg (by omega), if_neg (by omega), if_neg (by omega), if_neg (by omega), if_neg (by omega), if_pos (by omega)]; exact e100)
      | rw [if_neg (by omega), if_neg (by omega), if_neg (by omega), if_neg (by omega), if_neg (by omega), if_neg (by omega), if_pos (by omega)]
      | rw [if_neg (by omega), if_neg (by omega), if_neg (by omega), if_neg (by omega), if_neg (by omega), if_neg (by omega), if_neg (by omega), if_pos (by omega)]
      | rw [if_neg (by omega), if_neg (by omega), if_neg (by omega), if_neg (by omega), if_neg (by omega), if_neg (by omega), if_neg (by omega), if_neg (by omega), if_pos (by omega)]
      | rw [if_neg (by omega), if_neg (by omega), if_neg (by omega), if_neg (by omega), if_neg (by omega), if_neg (by omega), if_neg (by omega), if_neg (by omega), if_neg (by omega), if_pos (by omega)]
      | rw [if_neg (by omega), if_neg (by omega), if_neg (by omega), if_neg (by omega), if_neg (by omega), if_neg (by omega), if_neg (by omega), if_neg (by omega), if_neg (by omega), if_neg (by omega)]
  · refine wp_tin (9) (t := 1) (off := 127) (tgt := 128) rfl h1 z1 (by decide) (by decide) rfl (by decide) ?_
    refine wp_aload_n (t := 38) rfl rfl ?_
    refine wp_getR (t := 39) (ji := 0) rfl fX9_12 rfl rfl (by omega) (by first | rfl | assumption) (by first | exact hW _ _ _ (by omega) rfl | assumption) ?_
    refine wp_getI (t := 40) (ji := 1) rfl fX9_109 rfl rfl (by omega) (by first | rfl | assumption) ?_
    refine wp_ireturn (t := 41) rfl rfl ?_
    refine ⟨_, rfl, ?_, rfl, rfl⟩
    unfold cCount
    first
      | rw [if_pos (by omega)]
      | rw [if_neg (by omega), if_pos (by omega)]
      | rw [if_neg (by omega), if_neg (by omega), if_pos (by omega)]
      | rw [if_neg (by omega), if_neg (by omega), if_neg (by omega), if_pos (by omega)]
      | (rw [if_neg (by omega), if_neg (by omega), if_neg (by omega), if_neg (by omega), if_pos (by omega)]; exact e92)
      | (rw [if_neg (by omega), if_neg (by omega), if_neg (by omega), if_neg (by omega), if_neg (by omega), if_pos (by omega)]; exact e100)
      | rw [if_neg (by omega), if_neg (by omega), if_neg (by omega), if_neg (by omega), if_neg (by omega), if_neg (by omega), if_pos (by omega)]
      | rw [if_neg (by omega), if_neg (by omega), if_neg (by omega), if_neg (by omega), if_neg (by omega), if_neg (by omega), if_neg (by omega), if_pos (by omega)]
      | rw [if_neg (by omega), if_neg (by omega), if_neg (by omega), if_neg (by omega), if_neg (by omega), if_neg (by omega), if_neg (by omega), if_neg (by omega), if_pos (by omega)]
      | rw [if_neg (by omega), if_neg (by omega), if_neg (by omega), if_neg (by omega), if_neg (by omega), if_neg (by omega), if_neg (by omega), if_neg (by omega), if_neg (by omega), if_pos (by omega)]
      | rw [if_neg (by omega), if_neg (by omega), if_neg (by omega), if_neg (by omega), if_neg (by omega), if_neg (by omega), if_neg (by omega), if_neg (by omega), if_neg (by omega), if_neg (by omega)]
  · refine wp_tout (t := 1) (tgt := 136) rfl z1 h1 (by decide) ?_
    refine wp_iconst (t := 42) rfl ?_
    refine wp_ireturn (t := 43) rfl rfl ?_
    refine ⟨_, rfl, ?_, rfl, rfl⟩
    unfold cCount
    first
      | rw [if_pos (by omega)]
      | rw [if_neg (by omega), if_pos (by omega)]
      | rw [if_neg (by omega), if_neg (by omega), if_pos (by omega)]
      | rw [if_neg (by omega), if_neg (by omega), if_neg (by omega), if_pos (by omega)]
      | (rw [if_neg (by omega), if_neg (by omega), if_neg (by omega), if_neg (by omega), if_pos (by omega)]; exact e92)
      | (rw [if_neg (by omega), if_neg (by omega), if_neg (by omega), if_neg (by omega), if_neg (by omega), if_pos (by omega)]; exact e100)
      | rw [if_neg (by omega), if_neg (by omega), if_neg (by omega), if_neg (by omega), if_neg (by omega), if_neg (by omega), if_pos (by omega)]
      | rw [if_neg (by omega), if_neg (by omega), if_neg (by omega), if_neg (by omega), if_neg (by omega), if_neg (by omega), if_neg (by omega), if_pos (by omega)]
      | rw [if_neg (by omega), if_neg (by omega), if_neg (by omega), if_neg (by omega), if_neg (by omega), if_neg (by omega), if_neg (by omega), if_neg (by omega), if_pos (by omega)]
      | rw [if_neg (by omega), if_neg (by omega), if_neg (by omega), if_neg (by omega), if_neg (by omega), if_neg (by omega), if_neg (by omega), if_neg (by omega), if_neg (by omega), if_pos (by omega)]
      | rw [if_neg (by omega), if_neg (by omega), if_neg (by omega), if_neg (by omega), if_neg (by omega), if_neg (by omega), if_neg (by omega), if_neg (by omega), if_neg (by omega), if_neg (by omega)]
