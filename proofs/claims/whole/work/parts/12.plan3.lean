set_option maxHeartbeats 4000000 in
set_option maxRecDepth 100000 in
theorem c_X3_reason {G : zG} {d n : Nat} {I : zMem} {R : zRef} {p : Nat} {c w t : Int} (hp : p = 64 ∨ p = 86) (hW : zWir n R) (hn : 115 ≤ n) (hch : zCh I) (hpl : zPl I p) (hc : 0 ≤ c ∧ c < I 34 2) (hw : 1 ≤ w ∧ w ≤ I 34 0) (ht : 0 ≤ t ∧ t ≤ 1010000) : MT G mX3_reason (d + 3) 0 0 [zR p, zI c, zI w, zI t] n I R (zP1 (fun r I' R' => r = sRea (cS I p) c w t ∧ I' = I ∧ R' = R)) := by
  refine MT.of (by decide +kernel) tX3_reason_ok (Nat.le_of_ble_eq_true rfl) (fun hI0 => ?_)
  obtain ⟨hl0, hl1, hl2, hl3, hl4, hl5, hp1⟩ := zpl hp
  obtain ⟨hr0, hr1, hr2, hr3, hr4, hr5⟩ := zpr hp hW hn
  obtain ⟨f1, f2, f3, f4, f5, f6⟩ := cS_facts hch hpl
  have hco := hch.1
  have hli := hch.2.1
  have hpo := hch.2.2.1
  have hcc := hch.2.2.2.2.1 c hc.1 hc.2
  have hlo := hcc.2.2.2.2 w hw.1 hw.2
  have hT := f5 c w hc.1 hc.2 hw.1 hw.2
  refine wp_ls (ls' := [some (zR p), some (zI c), some (zI w), some (zI t), none]) rfl ?_
  refine wp_iload_n (t := 0) rfl rfl ?_
  refine wp_aload_n (t := 1) rfl rfl ?_
  refine wp_iload_n (t := 2) rfl rfl ?_
  refine wp_iload_n (t := 3) rfl rfl ?_
  refine wp_vi (ci := 3) (c_X3_takes hp hW hn ⟨hc.1, by omega⟩ ⟨by omega, by omega⟩ ⟨by omega, by omega⟩ ⟨by omega, by omega⟩) (t := 4) rfl kX3_47 rfl rfl (by omega) (by first | rfl | assumption) ⟨_, _, rfl⟩ (Nat.le_of_ble_eq_true rfl) ⟨Nat.le_refl _, Nat.le_refl _⟩ (fun r4 I4 R4 c4 => ?_)
  refine wp_canon (fun hI1 => ?_)
  obtain ⟨rfl, rfl, rfl⟩ := c4
  refine wp_iadd (t := 5) rfl ?_
  refine wp_istore (t := 6) rfl (by decide) rfl ?_
  refine wp_aload_n (t := 7) rfl rfl ?_
  refine wp_iload_n (t := 8) rfl rfl ?_
  refine wp_iload_n (t := 9) rfl rfl ?_
  refine wp_vi (ci := 3) (c_X3_notDoneAhead (d := d + 2) hp hW hn hch hpl ⟨hc.1, by omega⟩ (by unfold zin; omega)) (t := 10) rfl kX3_76 rfl rfl (by omega) (by first | rfl | assumption) ⟨_, _, rfl⟩ (Nat.le_of_ble_eq_true rfl) ⟨Nat.le_refl _, Nat.le_refl _⟩ (fun r13 I13 R13 c13 => ?_)
  refine wp_canon (fun hI2 => ?_)
  obtain ⟨rfl, rfl, rfl⟩ := c13
  refine wp_bipush (t := 11) rfl (by decide) ?_
  refine wp_icmp_eq (t := 12) (tgt := 23) rfl (by decide) (sNot_in (by omega)) (by first | assumption | exact hI2 _ _ | exact hI1 _ _ | exact hI0 _ _ | exact zin_and _ _ | (unfold zin; omega) | (unfold zin at *; omega)) (fun h18 => ?_) (fun h18 => ?_)
  · refine wp_aload_n (t := 15) rfl rfl ?_
    refine wp_iload_n (t := 16) rfl rfl ?_
    refine wp_iload (t := 17) rfl rfl ?_
    refine wp_vi (ci := 3) (c_X3_begunBehind (d := d + 2) hp hW hn hch hpl ⟨hc.1, by omega⟩ (by unfold zin; omega)) (t := 18) rfl kX3_79 rfl rfl (by omega) (by first | rfl | assumption) ⟨_, _, rfl⟩ (Nat.le_of_ble_eq_true rfl) ⟨Nat.le_refl _, Nat.le_refl _⟩ (fun r27 I27 R27 c27 => ?_)
    refine wp_canon (fun hI3 => ?_)
    obtain ⟨rfl, rfl, rfl⟩ := c27
    refine wp_bipush (t := 19) rfl (by decide) ?_
    refine wp_icmp_eq (t := 20) (tgt := 37) rfl (by decide) (sBeg_in (by omega)) (by first | assumption | exact hI3 _ _ | exact hI2 _ _ | exact hI1 _ _ | exact hI0 _ _ | exact zin_and _ _ | (unfold zin; omega) | (unfold zin at *; omega)) (fun h32 => ?_) (fun h32 => ?_)
    · refine wp_aload_n (t := 23) rfl rfl ?_
      refine wp_iconst (t := 24) rfl ?_
      refine wp_aload_n (t := 25) rfl rfl ?_
      refine wp_getR (t := 26) (ji := 0) rfl fX3_27 rfl rfl (by omega) (by first | rfl | assumption) (by first | exact hW _ _ _ (by omega) rfl | assumption) ?_
      refine wp_getI (t := 27) (ji := 0) rfl fX3_55 rfl rfl (by omega) (by first | rfl | assumption) ?_
      refine wp_iload_n (t := 28) rfl rfl ?_
      refine wp_isub (t := 29) rfl ?_
      refine wp_iload_n (t := 30) rfl rfl ?_
      refine wp_iload (t := 31) rfl rfl ?_
      refine wp_vi (ci := 3) (c_X3_firstOver (d := d + 1) (most := sL (cS I27 p) - w) hp hW hn hch hpl (Or.inl rfl) (by show zin (I27 34 0 - w); unfold zin; omega) ⟨by omega, by omega⟩ ⟨by omega, by omega⟩) (t := 32) rfl kX3_82 rfl rfl (by omega) (by first | rfl | assumption) ⟨_, _, rfl⟩ (Nat.le_of_ble_eq_true rfl) ⟨Nat.le_refl _, Nat.le_refl _⟩ (fun r51 I51 R51 c51 => ?_)
      refine wp_canon (fun hI4 => ?_)
      obtain ⟨rfl, rfl, rfl⟩ := c51
      refine wp_bipush (t := 33) rfl (by decide) ?_
      refine wp_icmp_eq (t := 34) (tgt := 61) rfl (by decide) (sOver_in (by omega) (by omega) (by omega)) (by first | assumption | exact hI4 _ _ | exact hI3 _ _ | exact hI2 _ _ | exact hI1 _ _ | exact hI0 _ _ | exact zin_and _ _ | (unfold zin; omega) | (unfold zin at *; omega)) (fun h56 => ?_) (fun h56 => ?_)
      · refine wp_aload_n (t := 37) rfl rfl ?_
        refine wp_iconst (t := 38) rfl ?_
        refine wp_aload_n (t := 39) rfl rfl ?_
        refine wp_getR (t := 40) (ji := 0) rfl fX3_27 rfl rfl (by omega) (by first | rfl | assumption) (by first | exact hW _ _ _ (by omega) rfl | assumption) ?_
        refine wp_getI (t := 41) (ji := 1) rfl fX3_86 rfl rfl (by omega) (by first | rfl | assumption) ?_
        refine wp_aload_n (t := 42) rfl rfl ?_
        refine wp_getR (t := 43) (ji := 0) rfl fX3_27 rfl rfl (by omega) (by first | rfl | assumption) (by first | exact hW _ _ _ (by omega) rfl | assumption) ?_
        refine wp_getR (t := 44) (ji := 6) rfl fX3_73 rfl rfl (by omega) (by first | rfl | assumption) (by first | exact hW _ _ _ (by omega) rfl | assumption) ?_
        refine wp_iload_n (t := 45) rfl rfl ?_
        refine wp_iaload (t := 46) rfl (by omega) (by first | rfl | assumption) (by omega) (by omega) (by decide) ?_
        refine wp_isub (t := 47) rfl ?_
        refine wp_iload_n (t := 48) rfl rfl ?_
        refine wp_iload (t := 49) rfl rfl ?_
        refine wp_vi (ci := 3) (c_X3_firstOver (d := d + 1) (most := sP (cS I51 p) - sD (cS I51 p) c) hp hW hn hch hpl (Or.inr rfl) (by show zin (I51 34 1 - I51 37 c); unfold zin; omega) ⟨by omega, by omega⟩ ⟨by omega, by omega⟩) (t := 50) rfl kX3_82 rfl rfl (by omega) (by first | rfl | assumption) ⟨_, _, rfl⟩ (Nat.le_of_ble_eq_true rfl) ⟨Nat.le_refl _, Nat.le_refl _⟩ (fun r83 I83 R83 c83 => ?_)
        refine wp_canon (fun hI5 => ?_)
        obtain ⟨rfl, rfl, rfl⟩ := c83
        refine wp_bipush (t := 51) rfl (by decide) ?_
        refine wp_icmp_eq (t := 52) (tgt := 93) rfl (by decide) (sOver_in (by omega) (by omega) (by omega)) (by first | assumption | exact hI5 _ _ | exact hI4 _ _ | exact hI3 _ _ | exact hI2 _ _ | exact hI1 _ _ | exact hI0 _ _ | exact zin_and _ _ | (unfold zin; omega) | (unfold zin at *; omega)) (fun h88 => ?_) (fun h88 => ?_)
        · refine wp_iconst (t := 55) rfl ?_
          refine wp_ireturn (t := 56) rfl rfl ?_
          exact ⟨_, rfl, ((if_neg (not_not_intro h18)).trans ((if_neg (not_not_intro h32)).trans ((if_neg (not_not_intro h56)).trans (if_neg (not_not_intro h88))))).symm, rfl, rfl⟩
        · refine wp_iconst (t := 53) rfl ?_
          refine wp_ireturn (t := 54) rfl rfl ?_
          exact ⟨_, rfl, ((if_neg (not_not_intro h18)).trans ((if_neg (not_not_intro h32)).trans ((if_neg (not_not_intro h56)).trans (if_pos h88)))).symm, rfl, rfl⟩
      · refine wp_iconst (t := 35) rfl ?_
        refine wp_ireturn (t := 36) rfl rfl ?_
        exact ⟨_, rfl, ((if_neg (not_not_intro h18)).trans ((if_neg (not_not_intro h32)).trans (if_pos h56))).symm, rfl, rfl⟩
    · refine wp_iconst (t := 21) rfl ?_
      refine wp_ireturn (t := 22) rfl rfl ?_
      exact ⟨_, rfl, ((if_neg (not_not_intro h18)).trans (if_pos h32)).symm, rfl, rfl⟩
  · refine wp_iconst (t := 13) rfl ?_
    refine wp_ireturn (t := 14) rfl rfl ?_
    exact ⟨_, rfl, (if_pos h18).symm, rfl, rfl⟩
set_option maxHeartbeats 4000000 in
set_option maxRecDepth 100000 in
theorem c_X3_toldBy {G : zG} {d n : Nat} {I : zMem} {R : zRef} {p : Nat} {r c w t : Int} (hp : p = 64 ∨ p = 86) (hW : zWir n R) (hn : 115 ≤ n) (hch : zCh I) (hpl : zPl I p) (hz : zin r) (hc : 0 ≤ c ∧ c < I 34 2) (hw : 1 ≤ w ∧ w ≤ I 34 0) (ht : 0 ≤ t ∧ t ≤ 1010000) : MT G mX3_toldBy (d + 3) 0 0 [zR p, zI r, zI c, zI w, zI t] n I R (zP1 (fun x I' R' => x = sTold (cS I p) r c w t ∧ I' = I ∧ R' = R)) := by
  refine MT.of (by decide +kernel) tX3_toldBy_ok (Nat.le_of_ble_eq_true rfl) (fun hI0 => ?_)
  obtain ⟨hl0, hl1, hl2, hl3, hl4, hl5, hp1⟩ := zpl hp
  obtain ⟨hr0, hr1, hr2, hr3, hr4, hr5⟩ := zpr hp hW hn
  obtain ⟨f1, f2, f3, f4, f5, f6⟩ := cS_facts hch hpl
  have hco := hch.1
  have hli := hch.2.1
  have hpo := hch.2.2.1
  have hcc := hch.2.2.2.2.1 c hc.1 hc.2
  have hlo := hcc.2.2.2.2 w hw.1 hw.2
  have hT := f5 c w hc.1 hc.2 hw.1 hw.2
  refine wp_ls (ls' := [some (zR p), some (zI r), some (zI c), some (zI w), some (zI t), none]) rfl ?_
  refine wp_iload (t := 0) rfl rfl ?_
  refine wp_aload_n (t := 1) rfl rfl ?_
  refine wp_iload_n (t := 2) rfl rfl ?_
  refine wp_iload_n (t := 3) rfl rfl ?_
  refine wp_vi (ci := 3) (c_X3_takes hp hW hn ⟨hc.1, by omega⟩ ⟨by omega, by omega⟩ ⟨by omega, by omega⟩ ⟨by omega, by omega⟩) (t := 4) rfl kX3_47 rfl rfl (by omega) (by first | rfl | assumption) ⟨_, _, rfl⟩ (Nat.le_of_ble_eq_true rfl) ⟨Nat.le_refl _, Nat.le_refl _⟩ (fun r5 I5 R5 c5 => ?_)
  refine wp_canon (fun hI1 => ?_)
  obtain ⟨rfl, rfl, rfl⟩ := c5
  refine wp_iadd (t := 5) rfl ?_
  refine wp_istore (t := 6) rfl (by decide) rfl ?_
  refine wp_iload_n (t := 7) rfl rfl ?_
  refine wp_top (fun y12 e12 => ?_)
  have z12 : zin y12 := (by first | assumption | exact hI1 _ _ | exact hI0 _ _ | exact zin_and _ _ | (unfold zin; omega) | (unfold zin at *; omega) | (rw [e12]; first | exact hI1 _ _ | exact hI0 _ _ | (unfold zin; omega)))
  rcases (show y12 = 1 ∨ y12 = 2 ∨ y12 = 3 ∨ y12 = 4 ∨ (y12 < 1 ∨ 4 < y12) by omega) with h12 | h12 | h12 | h12 | h12
  · refine wp_tin (1) (t := 8) (off := 32) (tgt := 44) rfl h12 z12 (by decide) (by decide) rfl (by decide) ?_
    refine wp_aload_n (t := 9) rfl rfl ?_
    refine wp_iload_n (t := 10) rfl rfl ?_
    refine wp_iload (t := 11) rfl rfl ?_
    refine wp_vi (ci := 3) (c_X3_notDoneAhead (d := d + 2) hp hW hn hch hpl ⟨hc.1, by omega⟩ (by unfold zin; omega)) (t := 12) rfl kX3_76 rfl rfl (by omega) (by first | rfl | assumption) ⟨_, _, rfl⟩ (Nat.le_of_ble_eq_true rfl) ⟨Nat.le_refl _, Nat.le_refl _⟩ (fun r48 I48 R48 c48 => ?_)
    refine wp_canon (fun hI2 => ?_)
    obtain ⟨rfl, rfl, rfl⟩ := c48
    refine wp_ireturn (t := 13) rfl rfl ?_
    refine ⟨_, rfl, ?_, rfl, rfl⟩
    unfold sTold
    first | rw [if_pos (by omega)] | rw [if_neg (by omega), if_pos (by omega)] | rw [if_neg (by omega), if_neg (by omega), if_pos (by omega)] | rw [if_neg (by omega), if_neg (by omega), if_neg (by omega), if_pos (by omega)] | rw [if_neg (by omega), if_neg (by omega), if_neg (by omega), if_neg (by omega)]
  · refine wp_tin (2) (t := 8) (off := 40) (tgt := 52) rfl h12 z12 (by decide) (by decide) rfl (by decide) ?_
    refine wp_aload_n (t := 14) rfl rfl ?_
    refine wp_iload_n (t := 15) rfl rfl ?_
    refine wp_iload (t := 16) rfl rfl ?_
    refine wp_vi (ci := 3) (c_X3_begunBehind (d := d + 2) hp hW hn hch hpl ⟨hc.1, by omega⟩ (by unfold zin; omega)) (t := 17) rfl kX3_79 rfl rfl (by omega) (by first | rfl | assumption) ⟨_, _, rfl⟩ (Nat.le_of_ble_eq_true rfl) ⟨Nat.le_refl _, Nat.le_refl _⟩ (fun r56 I56 R56 c56 => ?_)
    refine wp_canon (fun hI2 => ?_)
    obtain ⟨rfl, rfl, rfl⟩ := c56
    refine wp_ireturn (t := 18) rfl rfl ?_
    refine ⟨_, rfl, ?_, rfl, rfl⟩
    unfold sTold
    first | rw [if_pos (by omega)] | rw [if_neg (by omega), if_pos (by omega)] | rw [if_neg (by omega), if_neg (by omega), if_pos (by omega)] | rw [if_neg (by omega), if_neg (by omega), if_neg (by omega), if_pos (by omega)] | rw [if_neg (by omega), if_neg (by omega), if_neg (by omega), if_neg (by omega)]
  · refine wp_tin (3) (t := 8) (off := 48) (tgt := 60) rfl h12 z12 (by decide) (by decide) rfl (by decide) ?_
    refine wp_aload_n (t := 19) rfl rfl ?_
    refine wp_iconst (t := 20) rfl ?_
    refine wp_aload_n (t := 21) rfl rfl ?_
    refine wp_getR (t := 22) (ji := 0) rfl fX3_27 rfl rfl (by omega) (by first | rfl | assumption) (by first | exact hW _ _ _ (by omega) rfl | assumption) ?_
    refine wp_getI (t := 23) (ji := 0) rfl fX3_55 rfl rfl (by omega) (by first | rfl | assumption) ?_
    refine wp_iload_n (t := 24) rfl rfl ?_
    refine wp_isub (t := 25) rfl ?_
    refine wp_iload (t := 26) rfl rfl ?_
    refine wp_iload (t := 27) rfl rfl ?_
    refine wp_vi (ci := 3) (c_X3_firstOver (d := d + 1) (most := sL (cS I5 p) - w) hp hW hn hch hpl (Or.inl rfl) (by show zin (I5 34 0 - w); unfold zin; omega) ⟨by omega, by omega⟩ ⟨by omega, by omega⟩) (t := 28) rfl kX3_82 rfl rfl (by omega) (by first | rfl | assumption) ⟨_, _, rfl⟩ (Nat.le_of_ble_eq_true rfl) ⟨Nat.le_refl _, Nat.le_refl _⟩ (fun r75 I75 R75 c75 => ?_)
    refine wp_canon (fun hI2 => ?_)
    obtain ⟨rfl, rfl, rfl⟩ := c75
    refine wp_ireturn (t := 29) rfl rfl ?_
    refine ⟨_, rfl, ?_, rfl, rfl⟩
    unfold sTold
    first | rw [if_pos (by omega)] | rw [if_neg (by omega), if_pos (by omega)] | rw [if_neg (by omega), if_neg (by omega), if_pos (by omega)] | rw [if_neg (by omega), if_neg (by omega), if_neg (by omega), if_pos (by omega)] | rw [if_neg (by omega), if_neg (by omega), if_neg (by omega), if_neg (by omega)]
  · refine wp_tin (4) (t := 8) (off := 67) (tgt := 79) rfl h12 z12 (by decide) (by decide) rfl (by decide) ?_
    refine wp_aload_n (t := 30) rfl rfl ?_
    refine wp_iconst (t := 31) rfl ?_
    refine wp_aload_n (t := 32) rfl rfl ?_
    refine wp_getR (t := 33) (ji := 0) rfl fX3_27 rfl rfl (by omega) (by first | rfl | assumption) (by first | exact hW _ _ _ (by omega) rfl | assumption) ?_
    refine wp_getI (t := 34) (ji := 1) rfl fX3_86 rfl rfl (by omega) (by first | rfl | assumption) ?_
    refine wp_aload_n (t := 35) rfl rfl ?_
    refine wp_getR (t := 36) (ji := 0) rfl fX3_27 rfl rfl (by omega) (by first | rfl | assumption) (by first | exact hW _ _ _ (by omega) rfl | assumption) ?_
    refine wp_getR (t := 37) (ji := 6) rfl fX3_73 rfl rfl (by omega) (by first | rfl | assumption) (by first | exact hW _ _ _ (by omega) rfl | assumption) ?_
    refine wp_iload_n (t := 38) rfl rfl ?_
    refine wp_iaload (t := 39) rfl (by omega) (by first | rfl | assumption) (by omega) (by omega) (by decide) ?_
    refine wp_isub (t := 40) rfl ?_
    refine wp_iload (t := 41) rfl rfl ?_
    refine wp_iload (t := 42) rfl rfl ?_
    refine wp_vi (ci := 3) (c_X3_firstOver (d := d + 1) (most := sP (cS I5 p) - sD (cS I5 p) c) hp hW hn hch hpl (Or.inr rfl) (by show zin (I5 34 1 - I5 37 c); unfold zin; omega) ⟨by omega, by omega⟩ ⟨by omega, by omega⟩) (t := 43) rfl kX3_82 rfl rfl (by omega) (by first | rfl | assumption) ⟨_, _, rfl⟩ (Nat.le_of_ble_eq_true rfl) ⟨Nat.le_refl _, Nat.le_refl _⟩ (fun r102 I102 R102 c102 => ?_)
    refine wp_canon (fun hI2 => ?_)
    obtain ⟨rfl, rfl, rfl⟩ := c102
    refine wp_ireturn (t := 44) rfl rfl ?_
    refine ⟨_, rfl, ?_, rfl, rfl⟩
    unfold sTold
    first | rw [if_pos (by omega)] | rw [if_neg (by omega), if_pos (by omega)] | rw [if_neg (by omega), if_neg (by omega), if_pos (by omega)] | rw [if_neg (by omega), if_neg (by omega), if_neg (by omega), if_pos (by omega)] | rw [if_neg (by omega), if_neg (by omega), if_neg (by omega), if_neg (by omega)]
  · refine wp_tout (t := 8) (tgt := 106) rfl z12 h12 (by decide) ?_
    refine wp_bipush (t := 45) rfl (by decide) ?_
    refine wp_ireturn (t := 46) rfl rfl ?_
    refine ⟨_, rfl, ?_, rfl, rfl⟩
    unfold sTold
    first | rw [if_pos (by omega)] | rw [if_neg (by omega), if_pos (by omega)] | rw [if_neg (by omega), if_neg (by omega), if_pos (by omega)] | rw [if_neg (by omega), if_neg (by omega), if_neg (by omega), if_pos (by omega)] | rw [if_neg (by omega), if_neg (by omega), if_neg (by omega), if_neg (by omega)]
set_option maxHeartbeats 4000000 in
set_option maxRecDepth 100000 in
theorem c_X3_firstNotRefused {G : zG} {d n : Nat} {I : zMem} {R : zRef} {p : Nat} {c w y : Int} (hp : p = 64 ∨ p = 86) (hW : zWir n R) (hn : 115 ≤ n) (hch : zCh I) (hpl : zPl I p) (hc : 0 ≤ c ∧ c < I 34 2) (hw : 1 ≤ w ∧ w ≤ I 34 0) (hy : zin y) : MT G mX3_firstNotRefused (d + 3) 0 0 [zR p, zI c, zI w, zI y] n I R (zP1 (fun r I' R' => r = sSoon (cS I p) c w y ∧ I' = I ∧ R' = R)) := by
  refine MT.of (by decide +kernel) tX3_firstNotRefused_ok (Nat.le_of_ble_eq_true rfl) (fun hI0 => ?_)
  obtain ⟨hl0, hl1, hl2, hl3, hl4, hl5, hp1⟩ := zpl hp
  obtain ⟨hr0, hr1, hr2, hr3, hr4, hr5⟩ := zpr hp hW hn
  obtain ⟨f1, f2, f3, f4, f5, f6⟩ := cS_facts hch hpl
  have hco := hch.1
  have hli := hch.2.1
  have hpo := hch.2.2.1
  have hcc := hch.2.2.2.2.1 c hc.1 hc.2
  have hlo := hcc.2.2.2.2 w hw.1 hw.2
  have hT := f5 c w hc.1 hc.2 hw.1 hw.2
  have hnot : ∀ x, zin (sNot (cS I p) c x) := fun x => sNot_in (by omega)
  have hbeg : ∀ x, zin (sBeg (cS I p) c x) := fun x => sBeg_in (by omega)
  have key : ∀ (m : Nat) (i f : Int) (x7 : Option zV), -1 ≤ i → i ≤ I 34 2 → (I 34 2 - i).toNat = m → sInv (cS I p) c w y f i → -4 ≤ f ∧ f ≤ 1010000 →
      WP G mX3_firstNotRefused (d + 3) 0 0 0 0 15 [some (zR p), some (zI c), some (zI w), some (zI y), some (zI (sT (cS I p) c w)), some (zI f), some (zI i), x7] [] n I R (zP1 (fun r I' R' => r = sSoon (cS I p) c w y ∧ I' = I ∧ R' = R)) := by
    intro m
    induction m with
    | zero =>
      intro i f x7 h0 h1 hmm hs hf
      refine wp_iload (t := 9) rfl rfl ?_
      refine wp_aload_n (t := 10) rfl rfl ?_
      refine wp_getR (t := 11) (ji := 0) rfl fX3_27 rfl rfl (by omega) (by first | rfl | assumption) (by first | exact hW _ _ _ (by omega) rfl | assumption) ?_
      refine wp_getI (t := 12) (ji := 2) rfl fX3_63 rfl rfl (by omega) (by first | rfl | assumption) ?_
      refine wp_icmp_ge (t := 13) (tgt := 168) rfl (by decide) (by first | assumption | exact hI0 _ _ | exact zin_and _ _ | (unfold zin; omega) | (unfold zin at *; omega)) (by first | assumption | exact hI0 _ _ | exact zin_and _ _ | (unfold zin; omega) | (unfold zin at *; omega)) (fun h24 => ?_) (fun h24 => ?_)
      · refine wp_iload (t := 85) rfl rfl ?_
        refine wp_ireturn (t := 86) rfl rfl ?_
        refine ⟨_, rfl, sInv_end (S := cS I p) ?_ f1 (by omega) f2.1 f6, rfl, rfl⟩
        have ea : i = I 34 2 := by omega
        rw [ea] at hs
        exact hs
      · exact absurd h24 (by omega)
    | succ m ih =>
      intro i f x7 h0 h1 hmm hs hf
      have body : ∀ t7 : Int, 0 ≤ t7 → t7 ≤ 1010000 → t7 = sTj (sU (cS I p)) i → WP G mX3_firstNotRefused (d + 3) 0 0 0 0 45 [some (zR p), some (zI c), some (zI w), some (zI y), some (zI (sT (cS I p) c w)), some (zI f), some (zI i), some (zI t7)] [] n I R (zP1 (fun r I' R' => r = sSoon (cS I p) c w y ∧ I' = I ∧ R' = R)) := by
        intro t7 t0 t1 te
        have hq := sOk_iff4 (S := cS I p) (c := c) (w := w) t0
        refine wp_iload (t := 23) rfl rfl ?_
        refine wp_iload (t := 24) rfl rfl ?_
        refine wp_iadd (t := 25) rfl ?_
        refine wp_iload_n (t := 26) rfl rfl ?_
        refine wp_icmp_ge (t := 27) (tgt := 162) rfl (by decide) (by first | assumption | exact hI0 _ _ | exact zin_and _ _ | (unfold zin; omega) | (unfold zin at *; omega)) (by first | assumption | exact hI0 _ _ | exact zin_and _ _ | (unfold zin; omega) | (unfold zin at *; omega)) (fun h51 => ?_) (fun h51 => ?_)
        · refine wp_iinc (t := 83) rfl rfl (by decide) rfl ?_
          refine wp_goto (t := 84) (tgt := 15) rfl (by decide) ?_
          refine ih (i + 1) f _ (by omega) (by omega) (by omega) (sInv_keep hs ?_) hf
          rw [← te]
          first | exact Or.inl (by omega) | exact Or.inr (Or.inl ⟨by omega, by omega⟩) | exact Or.inr (Or.inr (fun g => h80 (hq.mp g).1)) | exact Or.inr (Or.inr (fun g => h95 (hq.mp g).2.1)) | exact Or.inr (Or.inr (fun g => h121 (hq.mp g).2.2.1)) | exact Or.inr (Or.inr (fun g => h155 (hq.mp g).2.2.2))
        · refine wp_iload (t := 28) rfl rfl ?_
          refine wp_bipush (t := 29) rfl (by decide) ?_
          refine wp_icmp_eq (t := 30) (tgt := 71) rfl (by decide) (by first | assumption | exact hI0 _ _ | exact zin_and _ _ | (unfold zin; omega) | (unfold zin at *; omega)) (by first | assumption | exact hI0 _ _ | exact zin_and _ _ | (unfold zin; omega) | (unfold zin at *; omega)) (fun h58 => ?_) (fun h58 => ?_)
          · refine wp_aload_n (t := 35) rfl rfl ?_
            refine wp_iload_n (t := 36) rfl rfl ?_
            refine wp_iload (t := 37) rfl rfl ?_
            refine wp_vi (ci := 3) (c_X3_notDoneAhead (d := d + 2) hp hW hn hch hpl ⟨hc.1, by omega⟩ (by unfold zin; omega)) (t := 38) rfl kX3_76 rfl rfl (by omega) (by first | rfl | assumption) ⟨_, _, rfl⟩ (Nat.le_of_ble_eq_true rfl) ⟨Nat.le_refl _, Nat.le_refl _⟩ (fun r75 I75 R75 c75 => ?_)
            refine wp_canon (fun hI1 => ?_)
            obtain ⟨rfl, rfl, rfl⟩ := c75
            refine wp_bipush (t := 39) rfl (by decide) ?_
            refine wp_icmp_ne (t := 40) (tgt := 162) rfl (by decide) (hnot _) (by first | assumption | exact hI1 _ _ | exact hI0 _ _ | exact zin_and _ _ | (unfold zin; omega) | (unfold zin at *; omega)) (fun h80 => ?_) (fun h80 => ?_)
            · refine wp_iinc (t := 83) rfl rfl (by decide) rfl ?_
              refine wp_goto (t := 84) (tgt := 15) rfl (by decide) ?_
              refine ih (i + 1) f _ (by omega) (by omega) (by omega) (sInv_keep hs ?_) hf
              rw [← te]
              first | exact Or.inl (by omega) | exact Or.inr (Or.inl ⟨by omega, by omega⟩) | exact Or.inr (Or.inr (fun g => h80 (hq.mp g).1)) | exact Or.inr (Or.inr (fun g => h95 (hq.mp g).2.1)) | exact Or.inr (Or.inr (fun g => h121 (hq.mp g).2.2.1)) | exact Or.inr (Or.inr (fun g => h155 (hq.mp g).2.2.2))
            · refine wp_aload_n (t := 41) rfl rfl ?_
              refine wp_iload_n (t := 42) rfl rfl ?_
              refine wp_iload (t := 43) rfl rfl ?_
              refine wp_iload (t := 44) rfl rfl ?_
              refine wp_iadd (t := 45) rfl ?_
              refine wp_vi (ci := 3) (c_X3_begunBehind (d := d + 2) hp hW hn hch hpl ⟨hc.1, by omega⟩ (by unfold zin; omega)) (t := 46) rfl kX3_79 rfl rfl (by omega) (by first | rfl | assumption) ⟨_, _, rfl⟩ (Nat.le_of_ble_eq_true rfl) ⟨Nat.le_refl _, Nat.le_refl _⟩ (fun r90 I90 R90 c90 => ?_)
              refine wp_canon (fun hI2 => ?_)
              obtain ⟨rfl, rfl, rfl⟩ := c90
              refine wp_bipush (t := 47) rfl (by decide) ?_
              refine wp_icmp_ne (t := 48) (tgt := 162) rfl (by decide) (hbeg _) (by first | assumption | exact hI2 _ _ | exact hI1 _ _ | exact hI0 _ _ | exact zin_and _ _ | (unfold zin; omega) | (unfold zin at *; omega)) (fun h95 => ?_) (fun h95 => ?_)
              · refine wp_iinc (t := 83) rfl rfl (by decide) rfl ?_
                refine wp_goto (t := 84) (tgt := 15) rfl (by decide) ?_
                refine ih (i + 1) f _ (by omega) (by omega) (by omega) (sInv_keep hs ?_) hf
                rw [← te]
                first | exact Or.inl (by omega) | exact Or.inr (Or.inl ⟨by omega, by omega⟩) | exact Or.inr (Or.inr (fun g => h80 (hq.mp g).1)) | exact Or.inr (Or.inr (fun g => h95 (hq.mp g).2.1)) | exact Or.inr (Or.inr (fun g => h121 (hq.mp g).2.2.1)) | exact Or.inr (Or.inr (fun g => h155 (hq.mp g).2.2.2))
              · refine wp_aload_n (t := 49) rfl rfl ?_
                refine wp_iconst (t := 50) rfl ?_
                refine wp_aload_n (t := 51) rfl rfl ?_
                refine wp_getR (t := 52) (ji := 0) rfl fX3_27 rfl rfl (by omega) (by first | rfl | assumption) (by first | exact hW _ _ _ (by omega) rfl | assumption) ?_
                refine wp_getI (t := 53) (ji := 0) rfl fX3_55 rfl rfl (by omega) (by first | rfl | assumption) ?_
                refine wp_iload_n (t := 54) rfl rfl ?_
                refine wp_isub (t := 55) rfl ?_
                refine wp_iload (t := 56) rfl rfl ?_
                refine wp_iload (t := 57) rfl rfl ?_
                refine wp_iload (t := 58) rfl rfl ?_
                refine wp_iadd (t := 59) rfl ?_
                refine wp_vi (ci := 3) (c_X3_firstOver (d := d + 1) (most := sL (cS I90 p) - w) hp hW hn hch hpl (Or.inl rfl) (by show zin (I90 34 0 - w); unfold zin; omega) ⟨by omega, by omega⟩ ⟨by omega, by omega⟩) (t := 60) rfl kX3_82 rfl rfl (by omega) (by first | rfl | assumption) ⟨_, _, rfl⟩ (Nat.le_of_ble_eq_true rfl) ⟨Nat.le_refl _, Nat.le_refl _⟩ (fun r116 I116 R116 c116 => ?_)
                refine wp_canon (fun hI3 => ?_)
                obtain ⟨rfl, rfl, rfl⟩ := c116
                refine wp_bipush (t := 61) rfl (by decide) ?_
                refine wp_icmp_ne (t := 62) (tgt := 162) rfl (by decide) (sOver_in (by omega) (by omega) (by omega)) (by first | assumption | exact hI3 _ _ | exact hI2 _ _ | exact hI1 _ _ | exact hI0 _ _ | exact zin_and _ _ | (unfold zin; omega) | (unfold zin at *; omega)) (fun h121 => ?_) (fun h121 => ?_)
                · refine wp_iinc (t := 83) rfl rfl (by decide) rfl ?_
                  refine wp_goto (t := 84) (tgt := 15) rfl (by decide) ?_
                  refine ih (i + 1) f _ (by omega) (by omega) (by omega) (sInv_keep hs ?_) hf
                  rw [← te]
                  first | exact Or.inl (by omega) | exact Or.inr (Or.inl ⟨by omega, by omega⟩) | exact Or.inr (Or.inr (fun g => h80 (hq.mp g).1)) | exact Or.inr (Or.inr (fun g => h95 (hq.mp g).2.1)) | exact Or.inr (Or.inr (fun g => h121 (hq.mp g).2.2.1)) | exact Or.inr (Or.inr (fun g => h155 (hq.mp g).2.2.2))
                · refine wp_aload_n (t := 63) rfl rfl ?_
                  refine wp_iconst (t := 64) rfl ?_
                  refine wp_aload_n (t := 65) rfl rfl ?_
                  refine wp_getR (t := 66) (ji := 0) rfl fX3_27 rfl rfl (by omega) (by first | rfl | assumption) (by first | exact hW _ _ _ (by omega) rfl | assumption) ?_
                  refine wp_getI (t := 67) (ji := 1) rfl fX3_86 rfl rfl (by omega) (by first | rfl | assumption) ?_
                  refine wp_aload_n (t := 68) rfl rfl ?_
                  refine wp_getR (t := 69) (ji := 0) rfl fX3_27 rfl rfl (by omega) (by first | rfl | assumption) (by first | exact hW _ _ _ (by omega) rfl | assumption) ?_
                  refine wp_getR (t := 70) (ji := 6) rfl fX3_73 rfl rfl (by omega) (by first | rfl | assumption) (by first | exact hW _ _ _ (by omega) rfl | assumption) ?_
                  refine wp_iload_n (t := 71) rfl rfl ?_
                  refine wp_iaload (t := 72) rfl (by omega) (by first | rfl | assumption) (by omega) (by omega) (by decide) ?_
                  refine wp_isub (t := 73) rfl ?_
                  refine wp_iload (t := 74) rfl rfl ?_
                  refine wp_iload (t := 75) rfl rfl ?_
                  refine wp_iload (t := 76) rfl rfl ?_
                  refine wp_iadd (t := 77) rfl ?_
                  refine wp_vi (ci := 3) (c_X3_firstOver (d := d + 1) (most := sP (cS I116 p) - sD (cS I116 p) c) hp hW hn hch hpl (Or.inr rfl) (by show zin (I116 34 1 - I116 37 c); unfold zin; omega) ⟨by omega, by omega⟩ ⟨by omega, by omega⟩) (t := 78) rfl kX3_82 rfl rfl (by omega) (by first | rfl | assumption) ⟨_, _, rfl⟩ (Nat.le_of_ble_eq_true rfl) ⟨Nat.le_refl _, Nat.le_refl _⟩ (fun r150 I150 R150 c150 => ?_)
                  refine wp_canon (fun hI4 => ?_)
                  obtain ⟨rfl, rfl, rfl⟩ := c150
                  refine wp_bipush (t := 79) rfl (by decide) ?_
                  refine wp_icmp_ne (t := 80) (tgt := 162) rfl (by decide) (sOver_in (by omega) (by omega) (by omega)) (by first | assumption | exact hI4 _ _ | exact hI3 _ _ | exact hI2 _ _ | exact hI1 _ _ | exact hI0 _ _ | exact zin_and _ _ | (unfold zin; omega) | (unfold zin at *; omega)) (fun h155 => ?_) (fun h155 => ?_)
                  · refine wp_iinc (t := 83) rfl rfl (by decide) rfl ?_
                    refine wp_goto (t := 84) (tgt := 15) rfl (by decide) ?_
                    refine ih (i + 1) f _ (by omega) (by omega) (by omega) (sInv_keep hs ?_) hf
                    rw [← te]
                    first | exact Or.inl (by omega) | exact Or.inr (Or.inl ⟨by omega, by omega⟩) | exact Or.inr (Or.inr (fun g => h80 (hq.mp g).1)) | exact Or.inr (Or.inr (fun g => h95 (hq.mp g).2.1)) | exact Or.inr (Or.inr (fun g => h121 (hq.mp g).2.2.1)) | exact Or.inr (Or.inr (fun g => h155 (hq.mp g).2.2.2))
                  · refine wp_iload (t := 81) rfl rfl ?_
                    refine wp_istore (t := 82) rfl (by decide) rfl ?_
                    refine wp_iinc (t := 83) rfl rfl (by decide) rfl ?_
                    refine wp_goto (t := 84) (tgt := 15) rfl (by decide) ?_
                    refine ih (i + 1) t7 _ (by omega) (by omega) (by omega) ?_ ⟨by omega, by omega⟩
                    rw [te]
                    refine sInv_new hs (by omega) (by omega) ?_ (by omega)
                    rw [← te]
                    exact hq.mpr ⟨h80, h95, h121, h155⟩
          · refine wp_iload (t := 31) rfl rfl ?_
            refine wp_iload (t := 32) rfl rfl ?_
            refine wp_icmp_lt (t := 33) (tgt := 71) rfl (by decide) (by first | assumption | exact hI0 _ _ | exact zin_and _ _ | (unfold zin; omega) | (unfold zin at *; omega)) (by first | assumption | exact hI0 _ _ | exact zin_and _ _ | (unfold zin; omega) | (unfold zin at *; omega)) (fun h65 => ?_) (fun h65 => ?_)
            · refine wp_aload_n (t := 35) rfl rfl ?_
              refine wp_iload_n (t := 36) rfl rfl ?_
              refine wp_iload (t := 37) rfl rfl ?_
              refine wp_vi (ci := 3) (c_X3_notDoneAhead (d := d + 2) hp hW hn hch hpl ⟨hc.1, by omega⟩ (by unfold zin; omega)) (t := 38) rfl kX3_76 rfl rfl (by omega) (by first | rfl | assumption) ⟨_, _, rfl⟩ (Nat.le_of_ble_eq_true rfl) ⟨Nat.le_refl _, Nat.le_refl _⟩ (fun r75 I75 R75 c75 => ?_)
              refine wp_canon (fun hI1 => ?_)
              obtain ⟨rfl, rfl, rfl⟩ := c75
              refine wp_bipush (t := 39) rfl (by decide) ?_
              refine wp_icmp_ne (t := 40) (tgt := 162) rfl (by decide) (hnot _) (by first | assumption | exact hI1 _ _ | exact hI0 _ _ | exact zin_and _ _ | (unfold zin; omega) | (unfold zin at *; omega)) (fun h80 => ?_) (fun h80 => ?_)
              · refine wp_iinc (t := 83) rfl rfl (by decide) rfl ?_
                refine wp_goto (t := 84) (tgt := 15) rfl (by decide) ?_
                refine ih (i + 1) f _ (by omega) (by omega) (by omega) (sInv_keep hs ?_) hf
                rw [← te]
                first | exact Or.inl (by omega) | exact Or.inr (Or.inl ⟨by omega, by omega⟩) | exact Or.inr (Or.inr (fun g => h80 (hq.mp g).1)) | exact Or.inr (Or.inr (fun g => h95 (hq.mp g).2.1)) | exact Or.inr (Or.inr (fun g => h121 (hq.mp g).2.2.1)) | exact Or.inr (Or.inr (fun g => h155 (hq.mp g).2.2.2))
              · refine wp_aload_n (t := 41) rfl rfl ?_
                refine wp_iload_n (t := 42) rfl rfl ?_
                refine wp_iload (t := 43) rfl rfl ?_
                refine wp_iload (t := 44) rfl rfl ?_
                refine wp_iadd (t := 45) rfl ?_
                refine wp_vi (ci := 3) (c_X3_begunBehind (d := d + 2) hp hW hn hch hpl ⟨hc.1, by omega⟩ (by unfold zin; omega)) (t := 46) rfl kX3_79 rfl rfl (by omega) (by first | rfl | assumption) ⟨_, _, rfl⟩ (Nat.le_of_ble_eq_true rfl) ⟨Nat.le_refl _, Nat.le_refl _⟩ (fun r90 I90 R90 c90 => ?_)
                refine wp_canon (fun hI2 => ?_)
                obtain ⟨rfl, rfl, rfl⟩ := c90
                refine wp_bipush (t := 47) rfl (by decide) ?_
                refine wp_icmp_ne (t := 48) (tgt := 162) rfl (by decide) (hbeg _) (by first | assumption | exact hI2 _ _ | exact hI1 _ _ | exact hI0 _ _ | exact zin_and _ _ | (unfold zin; omega) | (unfold zin at *; omega)) (fun h95 => ?_) (fun h95 => ?_)
                · refine wp_iinc (t := 83) rfl rfl (by decide) rfl ?_
                  refine wp_goto (t := 84) (tgt := 15) rfl (by decide) ?_
                  refine ih (i + 1) f _ (by omega) (by omega) (by omega) (sInv_keep hs ?_) hf
                  rw [← te]
                  first | exact Or.inl (by omega) | exact Or.inr (Or.inl ⟨by omega, by omega⟩) | exact Or.inr (Or.inr (fun g => h80 (hq.mp g).1)) | exact Or.inr (Or.inr (fun g => h95 (hq.mp g).2.1)) | exact Or.inr (Or.inr (fun g => h121 (hq.mp g).2.2.1)) | exact Or.inr (Or.inr (fun g => h155 (hq.mp g).2.2.2))
                · refine wp_aload_n (t := 49) rfl rfl ?_
                  refine wp_iconst (t := 50) rfl ?_
                  refine wp_aload_n (t := 51) rfl rfl ?_
                  refine wp_getR (t := 52) (ji := 0) rfl fX3_27 rfl rfl (by omega) (by first | rfl | assumption) (by first | exact hW _ _ _ (by omega) rfl | assumption) ?_
                  refine wp_getI (t := 53) (ji := 0) rfl fX3_55 rfl rfl (by omega) (by first | rfl | assumption) ?_
                  refine wp_iload_n (t := 54) rfl rfl ?_
                  refine wp_isub (t := 55) rfl ?_
                  refine wp_iload (t := 56) rfl rfl ?_
                  refine wp_iload (t := 57) rfl rfl ?_
                  refine wp_iload (t := 58) rfl rfl ?_
                  refine wp_iadd (t := 59) rfl ?_
                  refine wp_vi (ci := 3) (c_X3_firstOver (d := d + 1) (most := sL (cS I90 p) - w) hp hW hn hch hpl (Or.inl rfl) (by show zin (I90 34 0 - w); unfold zin; omega) ⟨by omega, by omega⟩ ⟨by omega, by omega⟩) (t := 60) rfl kX3_82 rfl rfl (by omega) (by first | rfl | assumption) ⟨_, _, rfl⟩ (Nat.le_of_ble_eq_true rfl) ⟨Nat.le_refl _, Nat.le_refl _⟩ (fun r116 I116 R116 c116 => ?_)
                  refine wp_canon (fun hI3 => ?_)
                  obtain ⟨rfl, rfl, rfl⟩ := c116
                  refine wp_bipush (t := 61) rfl (by decide) ?_
                  refine wp_icmp_ne (t := 62) (tgt := 162) rfl (by decide) (sOver_in (by omega) (by omega) (by omega)) (by first | assumption | exact hI3 _ _ | exact hI2 _ _ | exact hI1 _ _ | exact hI0 _ _ | exact zin_and _ _ | (unfold zin; omega) | (unfold zin at *; omega)) (fun h121 => ?_) (fun h121 => ?_)
                  · refine wp_iinc (t := 83) rfl rfl (by decide) rfl ?_
                    refine wp_goto (t := 84) (tgt := 15) rfl (by decide) ?_
                    refine ih (i + 1) f _ (by omega) (by omega) (by omega) (sInv_keep hs ?_) hf
                    rw [← te]
                    first | exact Or.inl (by omega) | exact Or.inr (Or.inl ⟨by omega, by omega⟩) | exact Or.inr (Or.inr (fun g => h80 (hq.mp g).1)) | exact Or.inr (Or.inr (fun g => h95 (hq.mp g).2.1)) | exact Or.inr (Or.inr (fun g => h121 (hq.mp g).2.2.1)) | exact Or.inr (Or.inr (fun g => h155 (hq.mp g).2.2.2))
                  · refine wp_aload_n (t := 63) rfl rfl ?_
                    refine wp_iconst (t := 64) rfl ?_
                    refine wp_aload_n (t := 65) rfl rfl ?_
                    refine wp_getR (t := 66) (ji := 0) rfl fX3_27 rfl rfl (by omega) (by first | rfl | assumption) (by first | exact hW _ _ _ (by omega) rfl | assumption) ?_
                    refine wp_getI (t := 67) (ji := 1) rfl fX3_86 rfl rfl (by omega) (by first | rfl | assumption) ?_
                    refine wp_aload_n (t := 68) rfl rfl ?_
                    refine wp_getR (t := 69) (ji := 0) rfl fX3_27 rfl rfl (by omega) (by first | rfl | assumption) (by first | exact hW _ _ _ (by omega) rfl | assumption) ?_
                    refine wp_getR (t := 70) (ji := 6) rfl fX3_73 rfl rfl (by omega) (by first | rfl | assumption) (by first | exact hW _ _ _ (by omega) rfl | assumption) ?_
                    refine wp_iload_n (t := 71) rfl rfl ?_
                    refine wp_iaload (t := 72) rfl (by omega) (by first | rfl | assumption) (by omega) (by omega) (by decide) ?_
                    refine wp_isub (t := 73) rfl ?_
                    refine wp_iload (t := 74) rfl rfl ?_
                    refine wp_iload (t := 75) rfl rfl ?_
                    refine wp_iload (t := 76) rfl rfl ?_
                    refine wp_iadd (t := 77) rfl ?_
                    refine wp_vi (ci := 3) (c_X3_firstOver (d := d + 1) (most := sP (cS I116 p) - sD (cS I116 p) c) hp hW hn hch hpl (Or.inr rfl) (by show zin (I116 34 1 - I116 37 c); unfold zin; omega) ⟨by omega, by omega⟩ ⟨by omega, by omega⟩) (t := 78) rfl kX3_82 rfl rfl (by omega) (by first | rfl | assumption) ⟨_, _, rfl⟩ (Nat.le_of_ble_eq_true rfl) ⟨Nat.le_refl _, Nat.le_refl _⟩ (fun r150 I150 R150 c150 => ?_)
                    refine wp_canon (fun hI4 => ?_)
                    obtain ⟨rfl, rfl, rfl⟩ := c150
                    refine wp_bipush (t := 79) rfl (by decide) ?_
                    refine wp_icmp_ne (t := 80) (tgt := 162) rfl (by decide) (sOver_in (by omega) (by omega) (by omega)) (by first | assumption | exact hI4 _ _ | exact hI3 _ _ | exact hI2 _ _ | exact hI1 _ _ | exact hI0 _ _ | exact zin_and _ _ | (unfold zin; omega) | (unfold zin at *; omega)) (fun h155 => ?_) (fun h155 => ?_)
                    · refine wp_iinc (t := 83) rfl rfl (by decide) rfl ?_
                      refine wp_goto (t := 84) (tgt := 15) rfl (by decide) ?_
                      refine ih (i + 1) f _ (by omega) (by omega) (by omega) (sInv_keep hs ?_) hf
                      rw [← te]
                      first | exact Or.inl (by omega) | exact Or.inr (Or.inl ⟨by omega, by omega⟩) | exact Or.inr (Or.inr (fun g => h80 (hq.mp g).1)) | exact Or.inr (Or.inr (fun g => h95 (hq.mp g).2.1)) | exact Or.inr (Or.inr (fun g => h121 (hq.mp g).2.2.1)) | exact Or.inr (Or.inr (fun g => h155 (hq.mp g).2.2.2))
                    · refine wp_iload (t := 81) rfl rfl ?_
                      refine wp_istore (t := 82) rfl (by decide) rfl ?_
                      refine wp_iinc (t := 83) rfl rfl (by decide) rfl ?_
                      refine wp_goto (t := 84) (tgt := 15) rfl (by decide) ?_
                      refine ih (i + 1) t7 _ (by omega) (by omega) (by omega) ?_ ⟨by omega, by omega⟩
                      rw [te]
                      refine sInv_new hs (by omega) (by omega) ?_ (by omega)
                      rw [← te]
                      exact hq.mpr ⟨h80, h95, h121, h155⟩
            · refine wp_goto (t := 34) (tgt := 162) rfl (by decide) ?_
              refine wp_iinc (t := 83) rfl rfl (by decide) rfl ?_
              refine wp_goto (t := 84) (tgt := 15) rfl (by decide) ?_
              refine ih (i + 1) f _ (by omega) (by omega) (by omega) (sInv_keep hs ?_) hf
              rw [← te]
              first | exact Or.inl (by omega) | exact Or.inr (Or.inl ⟨by omega, by omega⟩) | exact Or.inr (Or.inr (fun g => h80 (hq.mp g).1)) | exact Or.inr (Or.inr (fun g => h95 (hq.mp g).2.1)) | exact Or.inr (Or.inr (fun g => h121 (hq.mp g).2.2.1)) | exact Or.inr (Or.inr (fun g => h155 (hq.mp g).2.2.2))
      refine wp_iload (t := 9) rfl rfl ?_
      refine wp_aload_n (t := 10) rfl rfl ?_
      refine wp_getR (t := 11) (ji := 0) rfl fX3_27 rfl rfl (by omega) (by first | rfl | assumption) (by first | exact hW _ _ _ (by omega) rfl | assumption) ?_
      refine wp_getI (t := 12) (ji := 2) rfl fX3_63 rfl rfl (by omega) (by first | rfl | assumption) ?_
      refine wp_icmp_ge (t := 13) (tgt := 168) rfl (by decide) (by first | assumption | exact hI0 _ _ | exact zin_and _ _ | (unfold zin; omega) | (unfold zin at *; omega)) (by first | assumption | exact hI0 _ _ | exact zin_and _ _ | (unfold zin; omega) | (unfold zin at *; omega)) (fun h24 => ?_) (fun h24 => ?_)
      · exact absurd h24 (by omega)
      · refine wp_iload (t := 14) rfl rfl ?_
        refine wp_if_ge (t := 15) (tgt := 36) rfl (by decide) (by first | assumption | exact hI0 _ _ | exact zin_and _ _ | (unfold zin; omega) | (unfold zin at *; omega)) (fun h29 => ?_) (fun h29 => ?_)
        · have hui := (hpl i (by omega) (by omega)).2.2.2.1
          refine wp_aload_n (t := 18) rfl rfl ?_
          refine wp_getR (t := 19) (ji := 4) rfl fX3_21 rfl rfl (by omega) (by first | rfl | assumption) (by first | exact hW _ _ _ (by omega) rfl | assumption) ?_
          refine wp_iload (t := 20) rfl rfl ?_
          refine wp_iaload (t := 21) rfl (by omega) (by first | rfl | assumption) (by omega) (by omega) (by decide) ?_
          refine wp_istore (t := 22) rfl (by decide) rfl ?_
          exact body _ hui.1 hui.2 (if_neg (by omega)).symm
        · refine wp_iconst (t := 16) rfl ?_
          refine wp_goto (t := 17) (tgt := 43) rfl (by decide) ?_
          refine wp_istore (t := 22) rfl (by decide) rfl ?_
          exact body _ (by omega) (by omega) (if_pos (by omega)).symm
  refine wp_ls (ls' := [some (zR p), some (zI c), some (zI w), some (zI y), none, none, none, none]) rfl ?_
  refine wp_aload_n (t := 0) rfl rfl ?_
  refine wp_iload_n (t := 1) rfl rfl ?_
  refine wp_iload_n (t := 2) rfl rfl ?_
  refine wp_vi (ci := 3) (c_X3_takes hp hW hn ⟨hc.1, by omega⟩ ⟨by omega, by omega⟩ ⟨by omega, by omega⟩ ⟨by omega, by omega⟩) (t := 3) rfl kX3_47 rfl rfl (by omega) (by first | rfl | assumption) ⟨_, _, rfl⟩ (Nat.le_of_ble_eq_true rfl) ⟨Nat.le_refl _, Nat.le_refl _⟩ (fun r3 I3 R3 c3 => ?_)
  refine wp_canon (fun hI1 => ?_)
  obtain ⟨rfl, rfl, rfl⟩ := c3
  refine wp_istore (t := 4) rfl (by decide) rfl ?_
  refine wp_bipush (t := 5) rfl (by decide) ?_
  refine wp_istore (t := 6) rfl (by decide) rfl ?_
  refine wp_iconst (t := 7) rfl ?_
  refine wp_istore (t := 8) rfl (by decide) rfl ?_
  exact key _ (-1) (-4) _ (by omega) (by omega) rfl (Or.inl ⟨rfl, fun j j0 j1 => absurd j1 (by omega)⟩) (by omega)
