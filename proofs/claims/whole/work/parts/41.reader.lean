/-! the class reads a text -/
theorem zu_zu {I : zMem} {a : Nat} {i v w : Int} : zu (zu I a i v) a i w = zu I a i w := by
  funext b j
  unfold zu
  by_cases h : b = a ∧ j = i
  · rw [if_pos h, if_pos h]
  · rw [if_neg h, if_neg h, if_neg h]
set_option maxHeartbeats 4000000 in
set_option maxRecDepth 100000 in
theorem c_X4_number {G : zG} {d n : Nat} {I : zMem} {R : zRef} {lo hi sg : Int} (hW : zWir n R) (hn : 115 ≤ n) (hlen : 0 ≤ I 1 1 ∧ I 1 1 ≤ 200) (hat : 0 ≤ I 3 1 ∧ I 3 1 ≤ 1000) (hlo : 0 ≤ lo) (hz1 : zin lo) (hz2 : zin hi) (hz3 : zin sg) : MT G mX4_number (d + 1) 0 0 [zR 3, zI lo, zI hi, zI sg] n I R (zP1 (fun r I' R' => (r = (pNum (I 2) (I 1 1) lo hi sg (I 3 1)).1 ∧ (¬ r = -4 → I' 3 1 = (pNum (I 2) (I 1 1) lo hi sg (I 3 1)).2) ∧ (I 3 1 ≤ I' 3 1 ∧ I' 3 1 ≤ I 3 1 + 3) ∧ ∀ b : Nat, b ≠ 3 → I' b = I b) ∧ R' = R)) := by
  refine MT.of (by decide +kernel) tX4_number_ok (Nat.le_of_ble_eq_true rfl) (fun hI0 => ?_)
  have fb := pFig_b (I 2) (I 1 1) (I 3 1)
  have fb2 := pFig_b (I 2) (I 1 1) (I 3 1 + 1)
  refine wp_ls (ls' := [some (zR 3), some (zI lo), some (zI hi), some (zI sg), none, none]) rfl ?_
  refine wp_aload_n (t := 0) rfl rfl ?_
  refine wp_getR (t := 1) (ji := 0) rfl fX4_15 rfl rfl (by omega) (by first | rfl | assumption) (by first | exact hW _ _ _ (by omega) rfl | assumption) ?_
  refine wp_aload_n (t := 2) rfl rfl ?_
  refine wp_getI (t := 3) (ji := 1) rfl fX4_9 rfl rfl (by omega) (by first | rfl | assumption) ?_
  refine wp_vi (ci := 8) (c_X8_figureAt (d := d) hW hn (hI0 _ _) hlen) (t := 4) rfl kX4_92 rfl rfl (by omega) (by first | rfl | assumption) ⟨_, _, rfl⟩ (Nat.le_of_ble_eq_true rfl) ⟨Nat.le_refl _, Nat.le_refl _⟩ (fun r8 I8 R8 c8 => ?_)
  refine wp_canon (fun hI1 => ?_)
  obtain ⟨e8, zi8, zr8⟩ := c8
  have zi8 := zi8.symm
  subst zi8
  have zr8 := zr8.symm
  subst zr8
  have e8 : r8 = pFig (I 2) (I 1 1) (I 3 1) := e8
  refine wp_istore (t := 5) rfl (by decide) rfl ?_
  refine wp_iload (t := 6) rfl rfl ?_
  refine wp_bipush (t := 7) rfl (by decide) ?_
  refine wp_icmp_ne (t := 8) (tgt := 23) rfl (by decide) (by first | assumption | exact hI1 _ _ | exact hI0 _ _ | exact zin_and _ _ | (unfold zin; omega) | (unfold zin at *; omega)) (by first | assumption | exact hI1 _ _ | exact hI0 _ _ | exact zin_and _ _ | (unfold zin; omega) | (unfold zin at *; omega)) (fun h17 => ?_) (fun h17 => ?_)
  · refine wp_aload_n (t := 11) rfl rfl ?_
    refine wp_dup (t := 12) rfl rfl ?_
    refine wp_getI (t := 13) (ji := 1) rfl fX4_9 rfl rfl (by omega) (by first | rfl | assumption) ?_
    refine wp_iconst (t := 14) rfl ?_
    refine wp_iadd (t := 15) rfl ?_
    refine wp_putI (t := 16) (ji := 1) rfl fX4_9 p4_1 rfl rfl (by omega) (by first | rfl | assumption) (by first | assumption | exact hI1 _ _ | exact hI0 _ _ | exact zin_and _ _ | (unfold zin; omega) | (unfold zin at *; omega)) ?_
    refine wp_canon (fun hI2 => ?_)
    refine wp_aload_n (t := 17) rfl rfl ?_
    refine wp_getR (t := 18) (ji := 0) rfl fX4_15 rfl rfl (by omega) (by first | rfl | assumption) (by first | exact hW _ _ _ (by omega) rfl | assumption) ?_
    refine wp_aload_n (t := 19) rfl rfl ?_
    refine wp_getI (t := 20) (ji := 1) rfl fX4_9 rfl rfl (by omega) (by first | rfl | assumption) ?_
    rw [zu_eq]
    have z1 : zu I 3 1 (I 3 1 + 1) 1 = I 1 := zu_ne (by decide)
    have z2 : zu I 3 1 (I 3 1 + 1) 2 = I 2 := zu_ne (by decide)
    refine wp_vi (ci := 8) (c_X8_figureAt (d := d) hW hn (by unfold zin; omega) (by rw [z1]; exact hlen)) (t := 21) rfl kX4_92 rfl rfl (by omega) (by first | rfl | assumption) ⟨_, _, rfl⟩ (Nat.le_of_ble_eq_true rfl) ⟨Nat.le_refl _, Nat.le_refl _⟩ (fun r41 I41 R41 c41 => ?_)
    refine wp_canon (fun hI3 => ?_)
    obtain ⟨e41, rfl, zr41⟩ := c41
    have zr41 := zr41.symm
    subst zr41
    have e41 : r41 = pFig (I 2) (I 1 1) (I 3 1 + 1) := by rw [e41]; unfold zfig pFig; rw [z1, z2]
    refine wp_istore (t := 22) rfl (by decide) rfl ?_
    refine wp_iload (t := 23) rfl rfl ?_
    refine wp_bipush (t := 24) rfl (by decide) ?_
    refine wp_icmp_eq (t := 25) (tgt := 73) rfl (by decide) (by first | assumption | exact hI3 _ _ | exact hI2 _ _ | exact hI1 _ _ | exact hI0 _ _ | exact zin_and _ _ | (unfold zin; omega) | (unfold zin at *; omega)) (by first | assumption | exact hI3 _ _ | exact hI2 _ _ | exact hI1 _ _ | exact hI0 _ _ | exact zin_and _ _ | (unfold zin; omega) | (unfold zin at *; omega)) (fun h50 => ?_) (fun h50 => ?_)
    · have hE : pEnd (I 2) (I 1 1) (I 3 1) = I 3 1 + 1 := if_pos (by omega)
      have hV : pVal (I 2) (I 1 1) (I 3 1) = r8 := by unfold pVal; rw [if_pos (by omega), e8]
      have y1 := z1
      have y2 := z2
      refine wp_aload_n (t := 38) rfl rfl ?_
      refine wp_getR (t := 39) (ji := 0) rfl fX4_15 rfl rfl (by omega) (by first | rfl | assumption) (by first | exact hW _ _ _ (by omega) rfl | assumption) ?_
      refine wp_aload_n (t := 40) rfl rfl ?_
      refine wp_getI (t := 41) (ji := 1) rfl fX4_9 rfl rfl (by omega) (by first | rfl | assumption) ?_
      rw [zu_eq]
      refine wp_vi (ci := 8) (c_X8_letterAt (d := d) hW hn (by unfold zin; omega) (by rw [y1]; exact hlen)) (t := 42) rfl kX4_33 rfl rfl (by omega) (by first | rfl | assumption) ⟨_, _, rfl⟩ (Nat.le_of_ble_eq_true rfl) ⟨Nat.le_refl _, Nat.le_refl _⟩ (fun r81 I81 R81 c81 => ?_)
      refine wp_canon (fun hI4 => ?_)
      obtain ⟨e81, rfl, zr81⟩ := c81
      have zr81 := zr81.symm
      subst zr81
      have e81 : r81 = pLet (I 2) (I 1 1) (pEnd (I 2) (I 1 1) (I 3 1)) := by rw [e81]; unfold zlet pLet; rw [y1, y2, hE] <;> first | rfl | (rw [show I 3 1 + 1 + 1 = I 3 1 + 2 by omega])
      refine wp_iload_n (t := 43) rfl rfl ?_
      refine wp_icmp_eq (t := 44) (tgt := 91) rfl (by decide) (by rw [e81]; unfold pLet; split; exact hI0 _ _; (unfold zin; omega)) (by first | assumption | exact hI4 _ _ | exact hI3 _ _ | exact hI2 _ _ | exact hI1 _ _ | exact hI0 _ _ | exact zin_and _ _ | (unfold zin; omega) | (unfold zin at *; omega)) (fun h85 => ?_) (fun h85 => ?_)
      · refine wp_aload_n (t := 47) rfl rfl ?_
        refine wp_dup (t := 48) rfl rfl ?_
        refine wp_getI (t := 49) (ji := 1) rfl fX4_9 rfl rfl (by omega) (by first | rfl | assumption) ?_
        rw [zu_eq]
        refine wp_iconst (t := 50) rfl ?_
        refine wp_iadd (t := 51) rfl ?_
        refine wp_putI (t := 52) (ji := 1) rfl fX4_9 p4_1 rfl rfl (by omega) (by first | rfl | assumption) (by first | assumption | exact hI4 _ _ | exact hI3 _ _ | exact hI2 _ _ | exact hI1 _ _ | exact hI0 _ _ | exact zin_and _ _ | (unfold zin; omega) | (unfold zin at *; omega)) ?_
        refine wp_canon (fun hI5 => ?_)
        rw [zu_zu]
        refine wp_iload (t := 53) rfl rfl ?_
        refine wp_iload_n (t := 54) rfl rfl ?_
        refine wp_icmp_lt (t := 55) (tgt := 118) rfl (by decide) (by first | assumption | exact hI5 _ _ | exact hI4 _ _ | exact hI3 _ _ | exact hI2 _ _ | exact hI1 _ _ | exact hI0 _ _ | exact zin_and _ _ | (unfold zin; omega) | (unfold zin at *; omega)) (by first | assumption | exact hI5 _ _ | exact hI4 _ _ | exact hI3 _ _ | exact hI2 _ _ | exact hI1 _ _ | exact hI0 _ _ | exact zin_and _ _ | (unfold zin; omega) | (unfold zin at *; omega)) (fun h104 => ?_) (fun h104 => ?_)
        · refine wp_bipush (t := 61) rfl (by decide) ?_
          refine wp_ireturn (t := 62) rfl rfl ?_
          refine ⟨_, rfl, ⟨?_, fun q => absurd rfl q, ⟨by rw [zu_eq]; omega, by rw [zu_eq]; omega⟩, fun b hb => zu_ne hb⟩, rfl⟩
          rw [pNum_no (fun k => by have := k.2.2; omega)]
        · refine wp_iload (t := 56) rfl rfl ?_
          refine wp_iload_n (t := 57) rfl rfl ?_
          refine wp_icmp_gt (t := 58) (tgt := 118) rfl (by decide) (by first | assumption | exact hI5 _ _ | exact hI4 _ _ | exact hI3 _ _ | exact hI2 _ _ | exact hI1 _ _ | exact hI0 _ _ | exact zin_and _ _ | (unfold zin; omega) | (unfold zin at *; omega)) (by first | assumption | exact hI5 _ _ | exact hI4 _ _ | exact hI3 _ _ | exact hI2 _ _ | exact hI1 _ _ | exact hI0 _ _ | exact zin_and _ _ | (unfold zin; omega) | (unfold zin at *; omega)) (fun h110 => ?_) (fun h110 => ?_)
          · refine wp_bipush (t := 61) rfl (by decide) ?_
            refine wp_ireturn (t := 62) rfl rfl ?_
            refine ⟨_, rfl, ⟨?_, fun q => absurd rfl q, ⟨by rw [zu_eq]; omega, by rw [zu_eq]; omega⟩, fun b hb => zu_ne hb⟩, rfl⟩
            rw [pNum_no (fun k => by have := k.2.2; omega)]
          · refine wp_iload (t := 59) rfl rfl ?_
            refine wp_goto (t := 60) (tgt := 120) rfl (by decide) ?_
            refine wp_ireturn (t := 62) rfl rfl ?_
            have ok : pNok (I 2) (I 1 1) lo hi sg (I 3 1) := ⟨by omega, by omega, by omega, by omega⟩
            refine ⟨_, rfl, ⟨?_, fun q => ?_, ⟨by rw [zu_eq]; omega, by rw [zu_eq]; omega⟩, fun b hb => zu_ne hb⟩, rfl⟩
            · rw [pNum_ok ok]
              exact hV.symm
            · rw [pNum_ok ok, zu_eq]
              show _ = pEnd (I 2) (I 1 1) (I 3 1) + 1
              omega
      · refine wp_bipush (t := 45) rfl (by decide) ?_
        refine wp_ireturn (t := 46) rfl rfl ?_
        refine ⟨_, rfl, ⟨?_, fun q => absurd rfl q, ⟨by rw [zu_eq]; omega, by rw [zu_eq]; omega⟩, fun b hb => zu_ne hb⟩, rfl⟩
        rw [pNum_no (fun k => by have := k.2.1; omega)]
    · refine wp_bipush (t := 26) rfl (by decide) ?_
      refine wp_iload (t := 27) rfl rfl ?_
      refine wp_imul (t := 28) rfl ?_
      refine wp_iload (t := 29) rfl rfl ?_
      refine wp_iadd (t := 30) rfl ?_
      refine wp_istore (t := 31) rfl (by decide) rfl ?_
      refine wp_aload_n (t := 32) rfl rfl ?_
      refine wp_dup (t := 33) rfl rfl ?_
      refine wp_getI (t := 34) (ji := 1) rfl fX4_9 rfl rfl (by omega) (by first | rfl | assumption) ?_
      rw [zu_eq]
      refine wp_iconst (t := 35) rfl ?_
      refine wp_iadd (t := 36) rfl ?_
      refine wp_putI (t := 37) (ji := 1) rfl fX4_9 p4_1 rfl rfl (by omega) (by first | rfl | assumption) (by first | assumption | exact hI3 _ _ | exact hI2 _ _ | exact hI1 _ _ | exact hI0 _ _ | exact zin_and _ _ | (unfold zin; omega) | (unfold zin at *; omega)) ?_
      refine wp_canon (fun hI4 => ?_)
      rw [zu_zu]
      have hE : pEnd (I 2) (I 1 1) (I 3 1) = I 3 1 + 2 := if_neg (by omega)
      have hV : pVal (I 2) (I 1 1) (I 3 1) = 10 * r8 + r41 := by unfold pVal; rw [if_neg (by omega), e8, e41]
      have y1 : zu I 3 1 (I 3 1 + 1 + 1) 1 = I 1 := zu_ne (by decide)
      have y2 : zu I 3 1 (I 3 1 + 1 + 1) 2 = I 2 := zu_ne (by decide)
      refine wp_aload_n (t := 38) rfl rfl ?_
      refine wp_getR (t := 39) (ji := 0) rfl fX4_15 rfl rfl (by omega) (by first | rfl | assumption) (by first | exact hW _ _ _ (by omega) rfl | assumption) ?_
      refine wp_aload_n (t := 40) rfl rfl ?_
      refine wp_getI (t := 41) (ji := 1) rfl fX4_9 rfl rfl (by omega) (by first | rfl | assumption) ?_
      rw [zu_eq]
      refine wp_vi (ci := 8) (c_X8_letterAt (d := d) hW hn (by unfold zin; omega) (by rw [y1]; exact hlen)) (t := 42) rfl kX4_33 rfl rfl (by omega) (by first | rfl | assumption) ⟨_, _, rfl⟩ (Nat.le_of_ble_eq_true rfl) ⟨Nat.le_refl _, Nat.le_refl _⟩ (fun r81 I81 R81 c81 => ?_)
      refine wp_canon (fun hI5 => ?_)
      obtain ⟨e81, rfl, zr81⟩ := c81
      have zr81 := zr81.symm
      subst zr81
      have e81 : r81 = pLet (I 2) (I 1 1) (pEnd (I 2) (I 1 1) (I 3 1)) := by rw [e81]; unfold zlet pLet; rw [y1, y2, hE] <;> first | rfl | (rw [show I 3 1 + 1 + 1 = I 3 1 + 2 by omega])
      refine wp_iload_n (t := 43) rfl rfl ?_
      refine wp_icmp_eq (t := 44) (tgt := 91) rfl (by decide) (by rw [e81]; unfold pLet; split; exact hI0 _ _; (unfold zin; omega)) (by first | assumption | exact hI5 _ _ | exact hI4 _ _ | exact hI3 _ _ | exact hI2 _ _ | exact hI1 _ _ | exact hI0 _ _ | exact zin_and _ _ | (unfold zin; omega) | (unfold zin at *; omega)) (fun h85 => ?_) (fun h85 => ?_)
      · refine wp_aload_n (t := 47) rfl rfl ?_
        refine wp_dup (t := 48) rfl rfl ?_
        refine wp_getI (t := 49) (ji := 1) rfl fX4_9 rfl rfl (by omega) (by first | rfl | assumption) ?_
        rw [zu_eq]
        refine wp_iconst (t := 50) rfl ?_
        refine wp_iadd (t := 51) rfl ?_
        refine wp_putI (t := 52) (ji := 1) rfl fX4_9 p4_1 rfl rfl (by omega) (by first | rfl | assumption) (by first | assumption | exact hI5 _ _ | exact hI4 _ _ | exact hI3 _ _ | exact hI2 _ _ | exact hI1 _ _ | exact hI0 _ _ | exact zin_and _ _ | (unfold zin; omega) | (unfold zin at *; omega)) ?_
        refine wp_canon (fun hI6 => ?_)
        rw [zu_zu]
        refine wp_iload (t := 53) rfl rfl ?_
        refine wp_iload_n (t := 54) rfl rfl ?_
        refine wp_icmp_lt (t := 55) (tgt := 118) rfl (by decide) (by first | assumption | exact hI6 _ _ | exact hI5 _ _ | exact hI4 _ _ | exact hI3 _ _ | exact hI2 _ _ | exact hI1 _ _ | exact hI0 _ _ | exact zin_and _ _ | (unfold zin; omega) | (unfold zin at *; omega)) (by first | assumption | exact hI6 _ _ | exact hI5 _ _ | exact hI4 _ _ | exact hI3 _ _ | exact hI2 _ _ | exact hI1 _ _ | exact hI0 _ _ | exact zin_and _ _ | (unfold zin; omega) | (unfold zin at *; omega)) (fun h104 => ?_) (fun h104 => ?_)
        · refine wp_bipush (t := 61) rfl (by decide) ?_
          refine wp_ireturn (t := 62) rfl rfl ?_
          refine ⟨_, rfl, ⟨?_, fun q => absurd rfl q, ⟨by rw [zu_eq]; omega, by rw [zu_eq]; omega⟩, fun b hb => zu_ne hb⟩, rfl⟩
          rw [pNum_no (fun k => by have := k.2.2; omega)]
        · refine wp_iload (t := 56) rfl rfl ?_
          refine wp_iload_n (t := 57) rfl rfl ?_
          refine wp_icmp_gt (t := 58) (tgt := 118) rfl (by decide) (by first | assumption | exact hI6 _ _ | exact hI5 _ _ | exact hI4 _ _ | exact hI3 _ _ | exact hI2 _ _ | exact hI1 _ _ | exact hI0 _ _ | exact zin_and _ _ | (unfold zin; omega) | (unfold zin at *; omega)) (by first | assumption | exact hI6 _ _ | exact hI5 _ _ | exact hI4 _ _ | exact hI3 _ _ | exact hI2 _ _ | exact hI1 _ _ | exact hI0 _ _ | exact zin_and _ _ | (unfold zin; omega) | (unfold zin at *; omega)) (fun h110 => ?_) (fun h110 => ?_)
          · refine wp_bipush (t := 61) rfl (by decide) ?_
            refine wp_ireturn (t := 62) rfl rfl ?_
            refine ⟨_, rfl, ⟨?_, fun q => absurd rfl q, ⟨by rw [zu_eq]; omega, by rw [zu_eq]; omega⟩, fun b hb => zu_ne hb⟩, rfl⟩
            rw [pNum_no (fun k => by have := k.2.2; omega)]
          · refine wp_iload (t := 59) rfl rfl ?_
            refine wp_goto (t := 60) (tgt := 120) rfl (by decide) ?_
            refine wp_ireturn (t := 62) rfl rfl ?_
            have ok : pNok (I 2) (I 1 1) lo hi sg (I 3 1) := ⟨by omega, by omega, by omega, by omega⟩
            refine ⟨_, rfl, ⟨?_, fun q => ?_, ⟨by rw [zu_eq]; omega, by rw [zu_eq]; omega⟩, fun b hb => zu_ne hb⟩, rfl⟩
            · rw [pNum_ok ok]
              exact hV.symm
            · rw [pNum_ok ok, zu_eq]
              show _ = pEnd (I 2) (I 1 1) (I 3 1) + 1
              omega
      · refine wp_bipush (t := 45) rfl (by decide) ?_
        refine wp_ireturn (t := 46) rfl rfl ?_
        refine ⟨_, rfl, ⟨?_, fun q => absurd rfl q, ⟨by rw [zu_eq]; omega, by rw [zu_eq]; omega⟩, fun b hb => zu_ne hb⟩, rfl⟩
        rw [pNum_no (fun k => by have := k.2.1; omega)]
  · refine wp_bipush (t := 9) rfl (by decide) ?_
    refine wp_ireturn (t := 10) rfl rfl ?_
    refine ⟨_, rfl, ⟨?_, fun q => absurd rfl q, ⟨Int.le_refl _, by omega⟩, fun b _ => rfl⟩, rfl⟩
    rw [pNum_no (fun k => k.1 (by omega))]
set_option maxHeartbeats 4000000 in
set_option maxRecDepth 100000 in
theorem c_X4_row {G : zG} {d n rr : Nat} {I : zMem} {R : zRef} (hW : zWir n R) (hn : 115 ≤ n) (hlen : 0 ≤ I 1 1 ∧ I 1 1 ≤ 200) (hat : 0 ≤ I 3 1 ∧ I 3 1 ≤ 1000) (hrr : 3 < rr ∧ rr < 115) (hlr : zlay rr = (20, 6)) : MT G mX4_row (d + 1) 0 0 [zR 3, zR rr] n I R (zP1 (fun r I' R' => (r = (if pRun (I 2) (I 1 1) (I 3 1) 6 = 0 ∨ ¬ pLet (I 2) (I 1 1) (I 3 1 + pRun (I 2) (I 1 1) (I 3 1) 6) = 59 then -4 else pRun (I 2) (I 1 1) (I 3 1) 6) ∧ (¬ r = -4 → I' 3 1 = I 3 1 + pRun (I 2) (I 1 1) (I 3 1) 6 + 1) ∧ (∀ i : Int, 0 ≤ i → i < pRun (I 2) (I 1 1) (I 3 1) 6 → I' rr i = I 2 (I 3 1 + i) - 48) ∧ ∀ b : Nat, b ≠ 3 → b ≠ rr → I' b = I b) ∧ R' = R)) := by
  refine MT.of (by decide +kernel) tX4_row_ok (Nat.le_of_ble_eq_true rfl) (fun hI0 => ?_)
  have rb := pRun_b (I 2) (I 1 1) (I 3 1) 6
  -- behind the figures
  have tail : ∀ (J : zMem) (m : Int) (x3 : Option zV), pRun (I 2) (I 1 1) (I 3 1) 6 = m → J 3 1 = I 3 1 + m → (∀ i : Int, 0 ≤ i → i < m → J rr i = I 2 (I 3 1 + i) - 48) → (∀ b : Nat, b ≠ 3 → b ≠ rr → J b = I b) →
      WP G mX4_row (d + 1) 0 0 0 0 57 [some (zR 3), some (zR rr), some (zI m), x3] [] n J R (zP1 (fun r I' R' => (r = (if pRun (I 2) (I 1 1) (I 3 1) 6 = 0 ∨ ¬ pLet (I 2) (I 1 1) (I 3 1 + pRun (I 2) (I 1 1) (I 3 1) 6) = 59 then -4 else pRun (I 2) (I 1 1) (I 3 1) 6) ∧ (¬ r = -4 → I' 3 1 = I 3 1 + pRun (I 2) (I 1 1) (I 3 1) 6 + 1) ∧ (∀ i : Int, 0 ≤ i → i < pRun (I 2) (I 1 1) (I 3 1) 6 → I' rr i = I 2 (I 3 1 + i) - 48) ∧ ∀ b : Nat, b ≠ 3 → b ≠ rr → I' b = I b) ∧ R' = R)) := by
    intro J m x3 hm h1 h2 h3
    have y1 : J 1 = I 1 := h3 1 (by decide) (by omega)
    have y2 : J 2 = I 2 := h3 2 (by decide) (by omega)
    rw [hm] at rb ⊢
    refine wp_canon (fun hI0 => ?_)
    refine wp_iload_n (t := 31) rfl rfl ?_
    refine wp_if_eq (t := 32) (tgt := 77) rfl (by decide) (by first | assumption | exact hI0 _ _ | exact zin_and _ _ | (unfold zin; omega) | (unfold zin at *; omega)) (fun h58 => ?_) (fun h58 => ?_)
    · refine wp_bipush (t := 40) rfl (by decide) ?_
      refine wp_ireturn (t := 41) rfl rfl ?_
      exact ⟨_, rfl, ⟨(if_pos (Or.inl (by omega))).symm, fun q => absurd rfl q, h2, h3⟩, rfl⟩
    · refine wp_aload_n (t := 33) rfl rfl ?_
      refine wp_getR (t := 34) (ji := 0) rfl fX4_15 rfl rfl (by omega) (by first | rfl | assumption) (by first | exact hW _ _ _ (by omega) rfl | assumption) ?_
      refine wp_aload_n (t := 35) rfl rfl ?_
      refine wp_getI (t := 36) (ji := 1) rfl fX4_9 rfl rfl (by omega) (by first | rfl | assumption) ?_
      refine wp_vi (ci := 8) (c_X8_letterAt (d := d) hW hn (hI0 _ _) (by rw [y1]; exact hlen)) (t := 37) rfl kX4_33 rfl rfl (by omega) (by first | rfl | assumption) ⟨_, _, rfl⟩ (Nat.le_of_ble_eq_true rfl) ⟨Nat.le_refl _, Nat.le_refl _⟩ (fun r69 I69 R69 c69 => ?_)
      refine wp_canon (fun hI1 => ?_)
      obtain ⟨e69, zi69, zr69⟩ := c69
      have zi69 := zi69.symm
      subst zi69
      have zr69 := zr69.symm
      subst zr69
      have e69 : r69 = pLet (I 2) (I 1 1) (I 3 1 + m) := by rw [e69, h1]; unfold zlet pLet; rw [y1, y2]
      refine wp_bipush (t := 38) rfl (by decide) ?_
      refine wp_icmp_eq (t := 39) (tgt := 80) rfl (by decide) (by rw [e69]; unfold pLet; split; rw [← y2]; exact hI0 _ _; (unfold zin; omega)) (by first | assumption | exact hI1 _ _ | exact hI0 _ _ | exact zin_and _ _ | (unfold zin; omega) | (unfold zin at *; omega)) (fun h74 => ?_) (fun h74 => ?_)
      · refine wp_aload_n (t := 42) rfl rfl ?_
        refine wp_dup (t := 43) rfl rfl ?_
        refine wp_getI (t := 44) (ji := 1) rfl fX4_9 rfl rfl (by omega) (by first | rfl | assumption) ?_
        refine wp_iconst (t := 45) rfl ?_
        refine wp_iadd (t := 46) rfl ?_
        refine wp_putI (t := 47) (ji := 1) rfl fX4_9 p4_1 rfl rfl (by omega) (by first | rfl | assumption) (by first | assumption | exact hI1 _ _ | exact hI0 _ _ | exact zin_and _ _ | (unfold zin; omega) | (unfold zin at *; omega)) ?_
        refine wp_canon (fun hI2 => ?_)
        refine wp_iload_n (t := 48) rfl rfl ?_
        refine wp_ireturn (t := 49) rfl rfl ?_
        refine ⟨_, rfl, ⟨(if_neg (by omega)).symm, fun q => by rw [zu_eq, h1], fun i i0 i1 => by rw [zu_ne (by omega)]; exact h2 i i0 i1, fun b b1 b2 => by rw [zu_ne b1]; exact h3 b b1 b2⟩, rfl⟩
      · refine wp_bipush (t := 40) rfl (by decide) ?_
        refine wp_ireturn (t := 41) rfl rfl ?_
        exact ⟨_, rfl, ⟨(if_pos (Or.inr (by omega))).symm, fun q => absurd rfl q, h2, h3⟩, rfl⟩
  have key : ∀ (f : Nat) (i : Int) (J : zMem), 0 ≤ i → i + f = 6 → J 3 1 = I 3 1 + i → (∀ j : Int, 0 ≤ j → j < i → 0 < pFig (I 2) (I 1 1) (I 3 1 + j) ∧ J rr j = I 2 (I 3 1 + j) - 48) → (∀ b : Nat, b ≠ 3 → b ≠ rr → J b = I b) →
      WP G mX4_row (d + 1) 0 0 0 0 4 [some (zR 3), some (zR rr), some (zI i), some (zI i)] [] n J R (zP1 (fun r I' R' => (r = (if pRun (I 2) (I 1 1) (I 3 1) 6 = 0 ∨ ¬ pLet (I 2) (I 1 1) (I 3 1 + pRun (I 2) (I 1 1) (I 3 1) 6) = 59 then -4 else pRun (I 2) (I 1 1) (I 3 1) 6) ∧ (¬ r = -4 → I' 3 1 = I 3 1 + pRun (I 2) (I 1 1) (I 3 1) 6 + 1) ∧ (∀ i : Int, 0 ≤ i → i < pRun (I 2) (I 1 1) (I 3 1) 6 → I' rr i = I 2 (I 3 1 + i) - 48) ∧ ∀ b : Nat, b ≠ 3 → b ≠ rr → I' b = I b) ∧ R' = R)) := by
    intro f
    induction f with
    | zero =>
      intro i J h0 hf h1 h2 h3
      refine wp_iload_n (t := 4) rfl rfl ?_
      refine wp_aload_n (t := 5) rfl rfl ?_
      refine wp_alen (t := 6) rfl (by omega) (Or.inl rfl) hlr rfl ?_
      refine wp_icmp_ge (t := 7) (tgt := 57) rfl (by decide) (by first | assumption | exact hI0 _ _ | exact zin_and _ _ | (unfold zin; omega) | (unfold zin at *; omega)) (by first | assumption | exact hI0 _ _ | exact zin_and _ _ | (unfold zin; omega) | (unfold zin at *; omega)) (fun h7 => ?_) (fun h7 => ?_)
      · exact tail J i _ (pRun_eq 6 h0 (by omega) (fun j j0 j1 => (h2 j j0 j1).1) (fun q => absurd q (by omega))) h1 (fun j j0 j1 => (h2 j j0 j1).2) h3
      · exact absurd h7 (by omega)
    | succ f ih =>
      intro i J h0 hf h1 h2 h3
      have y1 : J 1 = I 1 := h3 1 (by decide) (by omega)
      have y2 : J 2 = I 2 := h3 2 (by decide) (by omega)
      have fb := pFig_b (I 2) (I 1 1) (I 3 1 + i)
      refine wp_canon (fun hI0 => ?_)
      refine wp_iload_n (t := 4) rfl rfl ?_
      refine wp_aload_n (t := 5) rfl rfl ?_
      refine wp_alen (t := 6) rfl (by omega) (Or.inl rfl) hlr rfl ?_
      refine wp_icmp_ge (t := 7) (tgt := 57) rfl (by decide) (by first | assumption | exact hI0 _ _ | exact zin_and _ _ | (unfold zin; omega) | (unfold zin at *; omega)) (by first | assumption | exact hI0 _ _ | exact zin_and _ _ | (unfold zin; omega) | (unfold zin at *; omega)) (fun h7 => ?_) (fun h7 => ?_)
      · exact absurd h7 (by omega)
      · refine wp_aload_n (t := 8) rfl rfl ?_
        refine wp_getR (t := 9) (ji := 0) rfl fX4_15 rfl rfl (by omega) (by first | rfl | assumption) (by first | exact hW _ _ _ (by omega) rfl | assumption) ?_
        refine wp_aload_n (t := 10) rfl rfl ?_
        refine wp_getI (t := 11) (ji := 1) rfl fX4_9 rfl rfl (by omega) (by first | rfl | assumption) ?_
        refine wp_vi (ci := 8) (c_X8_figureAt (d := d) hW hn (hI0 _ _) (by rw [y1]; exact hlen)) (t := 12) rfl kX4_92 rfl rfl (by omega) (by first | rfl | assumption) ⟨_, _, rfl⟩ (Nat.le_of_ble_eq_true rfl) ⟨Nat.le_refl _, Nat.le_refl _⟩ (fun r18 I18 R18 c18 => ?_)
        refine wp_canon (fun hI1 => ?_)
        obtain ⟨e18, zi18, zr18⟩ := c18
        have zi18 := zi18.symm
        subst zi18
        have zr18 := zr18.symm
        subst zr18
        have e18 : r18 = pFig (I 2) (I 1 1) (I 3 1 + i) := by rw [e18, h1]; unfold zfig pFig; rw [y1, y2]
        refine wp_if_le (t := 13) (tgt := 57) rfl (by decide) (by first | assumption | exact hI1 _ _ | exact hI0 _ _ | exact zin_and _ _ | (unfold zin; omega) | (unfold zin at *; omega)) (fun h21 => ?_) (fun h21 => ?_)
        · exact tail J i _ (pRun_eq 6 h0 (by omega) (fun j j0 j1 => (h2 j j0 j1).1) (fun q => by omega)) h1 (fun j j0 j1 => (h2 j j0 j1).2) h3
        · refine wp_aload_n (t := 14) rfl rfl ?_
          refine wp_iload_n (t := 15) rfl rfl ?_
          refine wp_aload_n (t := 16) rfl rfl ?_
          refine wp_getR (t := 17) (ji := 0) rfl fX4_15 rfl rfl (by omega) (by first | rfl | assumption) (by first | exact hW _ _ _ (by omega) rfl | assumption) ?_
          refine wp_aload_n (t := 18) rfl rfl ?_
          refine wp_getI (t := 19) (ji := 1) rfl fX4_9 rfl rfl (by omega) (by first | rfl | assumption) ?_
          refine wp_vi (ci := 8) (c_X8_figureAt (d := d) hW hn (hI0 _ _) (by rw [y1]; exact hlen)) (t := 20) rfl kX4_92 rfl rfl (by omega) (by first | rfl | assumption) ⟨_, _, rfl⟩ (Nat.le_of_ble_eq_true rfl) ⟨Nat.le_refl _, Nat.le_refl _⟩ (fun r34 I34 R34 c34 => ?_)
          refine wp_canon (fun hI2 => ?_)
          obtain ⟨e34, zi34, zr34⟩ := c34
          have zi34 := zi34.symm
          subst zi34
          have zr34 := zr34.symm
          subst zr34
          have e34 : r34 = pFig (I 2) (I 1 1) (I 3 1 + i) := by rw [e34, h1]; unfold zfig pFig; rw [y1, y2]
          refine wp_iastore (t := 21) rfl (by omega) hlr (by omega) (by omega) (by omega) (by first | assumption | exact hI2 _ _ | exact hI1 _ _ | exact hI0 _ _ | exact zin_and _ _ | (unfold zin; omega) | (unfold zin at *; omega)) ?_
          refine wp_canon (fun hI3 => ?_)
          refine wp_aload_n (t := 22) rfl rfl ?_
          refine wp_dup (t := 23) rfl rfl ?_
          refine wp_getI (t := 24) (ji := 1) rfl fX4_9 rfl rfl (by omega) (by first | rfl | assumption) ?_
          rw [show zu J rr i r34 3 1 = J 3 1 by rw [zu_ne (by omega)]]
          refine wp_iconst (t := 25) rfl ?_
          refine wp_iadd (t := 26) rfl ?_
          refine wp_putI (t := 27) (ji := 1) rfl fX4_9 p4_1 rfl rfl (by omega) (by first | rfl | assumption) (by first | assumption | exact hI3 _ _ | exact hI2 _ _ | exact hI1 _ _ | exact hI0 _ _ | exact zin_and _ _ | (unfold zin; omega) | (unfold zin at *; omega)) ?_
          refine wp_canon (fun hI4 => ?_)
          refine wp_iinc (t := 28) rfl rfl (by decide) rfl ?_
          refine wp_iinc (t := 29) rfl rfl (by decide) rfl ?_
          refine wp_goto (t := 30) (tgt := 4) rfl (by decide) ?_
          refine ih (i + 1) _ (by omega) (by omega) (by rw [zu_eq]; omega) (fun j j0 j1 => ?_) (fun b b1 b2 => by rw [zu_ne b1, zu_ne b2]; exact h3 b b1 b2)
          by_cases e : j = i
          · rw [e, zu_ne (by omega), zu_eq]
            have := pFig_in (T := I 2) (L := I 1 1) (p := I 3 1 + i) (by omega)
            omega
          · rw [zu_ne (by omega), zu_ni e]
            exact h2 j j0 (by omega)
  refine wp_ls (ls' := [some (zR 3), some (zR rr), none, none]) rfl ?_
  refine wp_iconst (t := 0) rfl ?_
  refine wp_istore_n (t := 1) rfl (by decide) rfl ?_
  refine wp_iconst (t := 2) rfl ?_
  refine wp_istore_n (t := 3) rfl (by decide) rfl ?_
  exact key 6 0 I (by omega) (by omega) (by omega) (fun j j0 j1 => absurd j1 (by omega)) (fun b _ _ => rfl)
/-- the chip at o as it has been told -/
def cRd (I : zMem) (o : Nat) (S : pS) : Prop := (I o 0 = S.1.1 ∧ I o 1 = S.1.2.1 ∧ I o 2 = S.1.2.2.1 ∧ I o 3 = S.1.2.2.2) ∧
  (∀ c : Int, 0 ≤ c → c < S.1.2.2.1 → I (o + 1) c = S.2.1 c ∧ I (o + 2) c = S.2.2.1 c ∧ I (o + 3) c = S.2.2.2.1 c ∧ I (o + 4) c = S.2.2.2.2.1 c ∧ ∀ i : Int, 0 ≤ i → i < S.2.2.2.2.1 c → I (o + 6 + c.toNat) i = S.2.2.2.2.2.1 c i) ∧
  (∀ b : Int, 0 ≤ b → b < S.1.2.2.2 → I (o + 12) b = S.2.2.2.2.2.2.1 b ∧ I (o + 13) b = S.2.2.2.2.2.2.2 b)
theorem cRd_ext {I J : zMem} {o : Nat} {S : pS} (h : ∀ b : Nat, o ≤ b → b ≤ o + 13 → J b = I b) (hc : pGood S) (hr : cRd I o S) : cRd J o S := by
  obtain ⟨h1, h2, h3⟩ := hr
  have := hc.2.2.1
  refine ⟨?_, fun c c0 c1 => ?_, fun b b0 b1 => ?_⟩
  · rw [h o (by omega) (by omega)]
    exact h1
  · rw [h (o + 1) (by omega) (by omega), h (o + 2) (by omega) (by omega), h (o + 3) (by omega) (by omega), h (o + 4) (by omega) (by omega), h (o + 6 + c.toNat) (by omega) (by omega)]
    exact h2 c c0 c1
  · rw [h (o + 12) (by omega) (by omega), h (o + 13) (by omega) (by omega)]
    exact h3 b b0 b1
theorem zco {o : Nat} (ho : o = 4 ∨ o = 34) : (zlay o).1 = 2 ∧ zlay (o + 1) = (20, 6) ∧ zlay (o + 2) = (20, 6) ∧ zlay (o + 3) = (20, 6) ∧ zlay (o + 4) = (20, 6) ∧ zlay (o + 5) = (21, 6) ∧ (∀ k : Nat, k < 6 → zlay (o + 6 + k) = (20, 6)) ∧ zlay (o + 12) = (20, 8) ∧ zlay (o + 13) = (20, 8) ∧ 3 < o ∧ o ≤ 34 := by
  rcases ho with rfl | rfl <;> decide
theorem zcr {o N : Nat} {R : zRef} (ho : o = 4 ∨ o = 34) (hW : zWir N R) (hN : 115 ≤ N) : R o 4 = some (o + 1) ∧ R o 5 = some (o + 2) ∧ R o 6 = some (o + 3) ∧ R o 7 = some (o + 4) ∧ R o 8 = some (o + 5) ∧ R o 9 = some (o + 12) ∧ R o 10 = some (o + 13) ∧ ∀ c : Int, 0 ≤ c → c < 6 → R (o + 5) c = some (o + 6 + c.toNat) := by
  rcases ho with rfl | rfl
  · exact ⟨hW 4 4 _ (by omega) rfl, hW 4 5 _ (by omega) rfl, hW 4 6 _ (by omega) rfl, hW 4 7 _ (by omega) rfl, hW 4 8 _ (by omega) rfl, hW 4 9 _ (by omega) rfl, hW 4 10 _ (by omega) rfl, fun c c0 c1 => zrowR (m := 6) hW (by omega) (by decide) c0 (by omega)⟩
  · exact ⟨hW 34 4 _ (by omega) rfl, hW 34 5 _ (by omega) rfl, hW 34 6 _ (by omega) rfl, hW 34 7 _ (by omega) rfl, hW 34 8 _ (by omega) rfl, hW 34 9 _ (by omega) rfl, hW 34 10 _ (by omega) rfl, fun c c0 c1 => zrowR (m := 6) hW (by omega) (by decide) c0 (by omega)⟩
/-- the frame of reading -/
def cFr (I J : zMem) (o : Nat) : Prop := ∀ b : Nat, b ≠ 3 → (b < o ∨ o + 13 < b) → J b = I b
set_option maxHeartbeats 4000000 in
set_option maxRecDepth 100000 in
theorem c_X4_readLines {G : zG} {d n o : Nat} {I : zMem} {R : zRef} {S : pS} {p : Int} (ho : o = 4 ∨ o = 34) (hW : zWir n R) (hn : 115 ≤ n) (hlen : 0 ≤ I 1 1 ∧ I 1 1 ≤ 200) (hp : 0 ≤ p ∧ p ≤ 200) (hat : I 3 1 = p + 1) (hr : cRd I o S) (hS : pGood S) : MT G mX4_readLines (d + 2) 0 0 [zR 3, zR o] n I R (zP1 (fun r I' R' => (r = (if ¬ (pLn (I 2) (I 1 1) p).1 = -4 then 1 else 0) ∧ (¬ r = 0 → cRd I' o (pUpL (I 2) (I 1 1) S p) ∧ I' 3 1 = (pLn (I 2) (I 1 1) p).2) ∧ cFr I I' o) ∧ R' = R)) := by
  refine MT.of (by decide +kernel) tX4_readLines_ok (Nat.le_of_ble_eq_true rfl) (fun hI0 => ?_)
  obtain ⟨l0, l1, l2, l3, l4, l5, l6, l7, l8, o1, o2⟩ := zco ho
  refine wp_ls (ls' := [some (zR 3), some (zR o), none]) rfl ?_
  refine wp_aload_n (t := 0) rfl rfl ?_
  refine wp_iconst (t := 1) rfl ?_
  refine wp_bipush (t := 2) rfl (by decide) ?_
  refine wp_bipush (t := 3) rfl (by decide) ?_
  refine wp_vi (ci := 4) (c_X4_number (d := d) hW hn hlen ⟨by omega, by omega⟩ (by omega) (by unfold zin; omega) (by unfold zin; omega) (by unfold zin; omega)) (t := 4) rfl kX4_49 rfl rfl (by omega) (by first | rfl | assumption) ⟨_, _, rfl⟩ (Nat.le_of_ble_eq_true rfl) ⟨Nat.le_refl _, Nat.le_refl _⟩ (fun r6 I6 R6 c6 => ?_)
  refine wp_canon (fun hI1 => ?_)
  obtain ⟨⟨e6, a6, b6, f6⟩, zr6⟩ := c6
  have zr6 := zr6.symm
  subst zr6
  rw [hat] at e6 a6
  have e6 : r6 = (pLn (I 2) (I 1 1) p).1 := e6
  have bb := pNum_b (T := I 2) (L := I 1 1) (lo := 1) (hi := 8) (sg := 59) (p := p + 1)
  have b9 : r6 = -4 ∨ (0 ≤ r6 ∧ r6 ≤ 99) := by
    rcases bb with q | q
    · exact Or.inl (by rw [e6]; unfold pLn; rw [q])
    · have := q.2.2.1; rw [e6]; exact Or.inr this
  refine wp_istore_n (t := 5) rfl (by decide) rfl ?_
  refine wp_iload_n (t := 6) rfl rfl ?_
  refine wp_bipush (t := 7) rfl (by decide) ?_
  refine wp_icmp_ne (t := 8) (tgt := 18) rfl (by decide) (by first | assumption | exact hI1 _ _ | exact hI0 _ _ | exact zin_and _ _ | (unfold zin; omega) | (unfold zin at *; omega)) (by first | assumption | exact hI1 _ _ | exact hI0 _ _ | exact zin_and _ _ | (unfold zin; omega) | (unfold zin at *; omega)) (fun h13 => ?_) (fun h13 => ?_)
  · refine wp_aload_n (t := 11) rfl rfl ?_
    refine wp_iload_n (t := 12) rfl rfl ?_
    refine wp_putI (t := 13) (ji := 0) rfl fX4_53 p2_0 rfl rfl (by omega) (by first | rfl | assumption) (by first | assumption | exact hI1 _ _ | exact hI0 _ _ | exact zin_and _ _ | (unfold zin; omega) | (unfold zin at *; omega)) ?_
    refine wp_canon (fun hI2 => ?_)
    refine wp_iconst (t := 14) rfl ?_
    refine wp_zreturn (t := 15) rfl rfl (by omega) ?_
    refine ⟨_, rfl, ⟨(if_pos (by omega)).symm, fun _ => ⟨?_, ?_⟩, fun b b1 b2 => by rw [zu_ne (by omega)]; exact f6 b b1⟩, rfl⟩
    · obtain ⟨g1, g2, g3⟩ := cRd_ext (J := I6) (fun b b1 b2 => f6 b (by omega)) hS hr
      refine ⟨⟨by rw [zu_eq]; exact e6, by rw [zu_ni (by decide)]; exact g1.2.1, by rw [zu_ni (by decide)]; exact g1.2.2.1, by rw [zu_ni (by decide)]; exact g1.2.2.2⟩, fun c c0 c1 => ?_, fun b b0 b1 => ?_⟩
      · rw [zu_ne (by omega), zu_ne (by omega), zu_ne (by omega), zu_ne (by omega), zu_ne (by omega)]
        exact g2 c c0 c1
      · rw [zu_ne (by omega), zu_ne (by omega)]
        exact g3 b b0 b1
    · rw [zu_ne (by omega)]
      exact a6 (by omega)
  · refine wp_iconst (t := 9) rfl ?_
    refine wp_zreturn (t := 10) rfl rfl (by omega) ?_
    exact ⟨_, rfl, ⟨(if_neg (fun q => q (by omega))).symm, fun q => absurd rfl q, fun b b1 b2 => f6 b b1⟩, rfl⟩
set_option maxHeartbeats 4000000 in
set_option maxRecDepth 100000 in
theorem c_X4_readPower {G : zG} {d n o : Nat} {I : zMem} {R : zRef} {S : pS} {p : Int} (ho : o = 4 ∨ o = 34) (hW : zWir n R) (hn : 115 ≤ n) (hlen : 0 ≤ I 1 1 ∧ I 1 1 ≤ 200) (hp : 0 ≤ p ∧ p ≤ 200) (hat : I 3 1 = p + 1) (hr : cRd I o S) (hS : pGood S) : MT G mX4_readPower (d + 2) 0 0 [zR 3, zR o] n I R (zP1 (fun r I' R' => (r = (if ¬ (pPw (I 2) (I 1 1) p).1 = -4 then 1 else 0) ∧ (¬ r = 0 → cRd I' o (pUpP (I 2) (I 1 1) S p) ∧ I' 3 1 = (pPw (I 2) (I 1 1) p).2) ∧ cFr I I' o) ∧ R' = R)) := by
  refine MT.of (by decide +kernel) tX4_readPower_ok (Nat.le_of_ble_eq_true rfl) (fun hI0 => ?_)
  obtain ⟨l0, l1, l2, l3, l4, l5, l6, l7, l8, o1, o2⟩ := zco ho
  refine wp_ls (ls' := [some (zR 3), some (zR o), none]) rfl ?_
  refine wp_aload_n (t := 0) rfl rfl ?_
  refine wp_iconst (t := 1) rfl ?_
  refine wp_bipush (t := 2) rfl (by decide) ?_
  refine wp_bipush (t := 3) rfl (by decide) ?_
  refine wp_vi (ci := 4) (c_X4_number (d := d) hW hn hlen ⟨by omega, by omega⟩ (by omega) (by unfold zin; omega) (by unfold zin; omega) (by unfold zin; omega)) (t := 4) rfl kX4_49 rfl rfl (by omega) (by first | rfl | assumption) ⟨_, _, rfl⟩ (Nat.le_of_ble_eq_true rfl) ⟨Nat.le_refl _, Nat.le_refl _⟩ (fun r6 I6 R6 c6 => ?_)
  refine wp_canon (fun hI1 => ?_)
  obtain ⟨⟨e6, a6, b6, f6⟩, zr6⟩ := c6
  have zr6 := zr6.symm
  subst zr6
  rw [hat] at e6 a6
  have e6 : r6 = (pPw (I 2) (I 1 1) p).1 := e6
  have bb := pNum_b (T := I 2) (L := I 1 1) (lo := 1) (hi := 40) (sg := 59) (p := p + 1)
  have b9 : r6 = -4 ∨ (0 ≤ r6 ∧ r6 ≤ 99) := by
    rcases bb with q | q
    · exact Or.inl (by rw [e6]; unfold pPw; rw [q])
    · have := q.2.2.1; rw [e6]; exact Or.inr this
  refine wp_istore_n (t := 5) rfl (by decide) rfl ?_
  refine wp_iload_n (t := 6) rfl rfl ?_
  refine wp_bipush (t := 7) rfl (by decide) ?_
  refine wp_icmp_ne (t := 8) (tgt := 18) rfl (by decide) (by first | assumption | exact hI1 _ _ | exact hI0 _ _ | exact zin_and _ _ | (unfold zin; omega) | (unfold zin at *; omega)) (by first | assumption | exact hI1 _ _ | exact hI0 _ _ | exact zin_and _ _ | (unfold zin; omega) | (unfold zin at *; omega)) (fun h13 => ?_) (fun h13 => ?_)
  · refine wp_aload_n (t := 11) rfl rfl ?_
    refine wp_iload_n (t := 12) rfl rfl ?_
    refine wp_putI (t := 13) (ji := 1) rfl fX4_56 p2_1 rfl rfl (by omega) (by first | rfl | assumption) (by first | assumption | exact hI1 _ _ | exact hI0 _ _ | exact zin_and _ _ | (unfold zin; omega) | (unfold zin at *; omega)) ?_
    refine wp_canon (fun hI2 => ?_)
    refine wp_iconst (t := 14) rfl ?_
    refine wp_zreturn (t := 15) rfl rfl (by omega) ?_
    refine ⟨_, rfl, ⟨(if_pos (by omega)).symm, fun _ => ⟨?_, ?_⟩, fun b b1 b2 => by rw [zu_ne (by omega)]; exact f6 b b1⟩, rfl⟩
    · obtain ⟨g1, g2, g3⟩ := cRd_ext (J := I6) (fun b b1 b2 => f6 b (by omega)) hS hr
      refine ⟨⟨by rw [zu_ni (by decide)]; exact g1.1, by rw [zu_eq]; exact e6, by rw [zu_ni (by decide)]; exact g1.2.2.1, by rw [zu_ni (by decide)]; exact g1.2.2.2⟩, fun c c0 c1 => ?_, fun b b0 b1 => ?_⟩
      · rw [zu_ne (by omega), zu_ne (by omega), zu_ne (by omega), zu_ne (by omega), zu_ne (by omega)]
        exact g2 c c0 c1
      · rw [zu_ne (by omega), zu_ne (by omega)]
        exact g3 b b0 b1
    · rw [zu_ne (by omega)]
      exact a6 (by omega)
  · refine wp_iconst (t := 9) rfl ?_
    refine wp_zreturn (t := 10) rfl rfl (by omega) ?_
    exact ⟨_, rfl, ⟨(if_neg (fun q => q (by omega))).symm, fun q => absurd rfl q, fun b b1 b2 => f6 b b1⟩, rfl⟩
