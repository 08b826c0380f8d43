/-! the law, call by call -/
section ZLC
variable {G : zG} {p : Program} {e : Env} {s : State} {m : MethodId} {b : Nat} {below : List Frame} {meth : Method} {c : Code} {L : Nat} {xs : Nat → Int32} {lsA : Array Slot} {I : zMem} {R : zRef} {i : Int} {rho1 rho2 : Int → Nat}
set_option maxRecDepth 100000 in
theorem l_write (E : LCx G p s m b meth c L xs) (hA : lv_has lsA 4 (lLs G b i)) (h0 : 0 ≤ i) (hi3 : i + 3 < L) (hi : Inv I R rho1 rho2) (kk : ∀ I2 R2 r1 r2, Inv I2 R2 r1 r2 → WLg G p e s m b below meth c lsA 773 [] I2 R2) : WLg G p e s m b below meth c lsA 148 [] I R := by
  have hW := hi.2.2.2.2.2.2.2.2.2.2
  refine wl_ref E (t := 22) rfl (lv_at hA 2 rfl) ?_
  refine wl_arg E hA h0 hi3 1 (by decide) (by decide) (t := 23) rfl rfl rfl rfl rfl ?_
  refine wl_call E (ci := 9) (o := 0) (rest := []) (c_X9_write (d := 0) hW (by omega) (xsI_in xs (i + 1)) hi.1.2.1) (t := 28) rfl kL_13 rfl (by omega) rfl ⟨_, _, rfl⟩ rfl (Nat.le_of_ble_eq_true rfl) (Nat.le_of_ble_eq_true rfl) hA.1 (fun r1 I1 R1 c1 => ?_)
  obtain ⟨c1, rfl⟩ := c1
  have hI := b_write c1
  refine wl_ref E (t := 29) rfl (lv_at hA 1 rfl) ?_
  refine wl_arg E hA h0 hi3 1 (by decide) (by decide) (t := 30) rfl rfl rfl rfl rfl ?_
  refine wl_call E (ci := 10) (o := 115) (rest := [.int (Int32.ofInt r1)]) (c_X10_write (d := 0) hW (Nat.le_refl _) (xsI_in xs (i + 1)) (j_tx hi hI)) (t := 35) rfl kL_17 rfl (by omega) rfl ⟨_, _, rfl⟩ rfl (Nat.le_of_ble_eq_true rfl) (Nat.le_of_ble_eq_true rfl) hA.1 (fun r2 I2 R2 c2 => ?_)
  obtain ⟨c2, rfl⟩ := c2
  obtain ⟨e9, hi2⟩ := f_write hi c1 c2
  subst e9
  exact wl_eq E (t := 36) rfl (by decide) (kk _ _ _ _ hi2)
set_option maxRecDepth 100000 in
theorem l_wipe (E : LCx G p s m b meth c L xs) (hA : lv_has lsA 4 (lLs G b i)) (h0 : 0 ≤ i) (hi3 : i + 3 < L) (hi : Inv I R rho1 rho2) (kk : ∀ I2 R2 r1 r2, Inv I2 R2 r1 r2 → WLg G p e s m b below meth c lsA 773 [] I2 R2) : WLg G p e s m b below meth c lsA 171 [] I R := by
  have hW := hi.2.2.2.2.2.2.2.2.2.2
  refine wl_ref E (t := 39) rfl (lv_at hA 2 rfl) ?_
  refine wl_call E (ci := 9) (o := 0) (rest := []) (c_X9_wipe (d := 0) hW (by omega)) (t := 40) rfl kL_18 rfl (by omega) rfl ⟨_, _, rfl⟩ rfl (Nat.le_of_ble_eq_true rfl) (Nat.le_of_ble_eq_true rfl) hA.1 (fun r1 I1 R1 c1 => ?_)
  obtain ⟨c1, rfl⟩ := c1
  refine wl_ref E (t := 41) rfl (lv_at hA 1 rfl) ?_
  refine wl_call E (ci := 10) (o := 115) (rest := [.int (Int32.ofInt r1)]) (c_X10_wipe (d := 0) hW (Nat.le_refl _)) (t := 42) rfl kL_22 rfl (by omega) rfl ⟨_, _, rfl⟩ rfl (Nat.le_of_ble_eq_true rfl) (Nat.le_of_ble_eq_true rfl) hA.1 (fun r2 I2 R2 c2 => ?_)
  obtain ⟨c2, rfl⟩ := c2
  obtain ⟨e9, hi2⟩ := f_wipe hi c1 c2
  subst e9
  exact wl_eq E (t := 43) rfl (by decide) (kk _ _ _ _ hi2)
set_option maxRecDepth 100000 in
theorem l_fault (E : LCx G p s m b meth c L xs) (hA : lv_has lsA 4 (lLs G b i)) (h0 : 0 ≤ i) (hi3 : i + 3 < L) (hi : Inv I R rho1 rho2) (kk : ∀ I2 R2 r1 r2, Inv I2 R2 r1 r2 → WLg G p e s m b below meth c lsA 773 [] I2 R2) : WLg G p e s m b below meth c lsA 184 [] I R := by
  have hW := hi.2.2.2.2.2.2.2.2.2.2
  refine wl_ref E (t := 46) rfl (lv_at hA 2 rfl) ?_
  refine wl_call E (ci := 9) (o := 0) (rest := []) (c_X9_fault (d := 0) hW (by omega) hi.1.2.1) (t := 47) rfl kL_23 rfl (by omega) rfl ⟨_, _, rfl⟩ rfl (Nat.le_of_ble_eq_true rfl) (Nat.le_of_ble_eq_true rfl) hA.1 (fun r1 I1 R1 c1 => ?_)
  obtain ⟨c1, rfl⟩ := c1
  have hI : ∀ b : Nat, 115 ≤ b → I1 b = I b := fun b hb => c1.2 b (by omega) (by omega)
  refine wl_ref E (t := 48) rfl (lv_at hA 1 rfl) ?_
  refine wl_call E (ci := 10) (o := 115) (rest := [.int (Int32.ofInt r1)]) (c_X10_fault (d := 0) hW (Nat.le_refl _) (j_tx hi hI)) (t := 49) rfl kL_26 rfl (by omega) rfl ⟨_, _, rfl⟩ rfl (Nat.le_of_ble_eq_true rfl) (Nat.le_of_ble_eq_true rfl) hA.1 (fun r2 I2 R2 c2 => ?_)
  obtain ⟨c2, rfl⟩ := c2
  obtain ⟨e9, hi2⟩ := f_fault hi c1 c2
  subst e9
  exact wl_eq E (t := 50) rfl (by decide) (kk _ _ _ _ hi2)
set_option maxRecDepth 100000 in
theorem l_lay (E : LCx G p s m b meth c L xs) (hA : lv_has lsA 4 (lLs G b i)) (h0 : 0 ≤ i) (hi3 : i + 3 < L) (hi : Inv I R rho1 rho2) (kk : ∀ I2 R2 r1 r2, Inv I2 R2 r1 r2 → WLg G p e s m b below meth c lsA 773 [] I2 R2) : WLg G p e s m b below meth c lsA 197 [] I R := by
  have hW := hi.2.2.2.2.2.2.2.2.2.2
  refine wl_ref E (t := 53) rfl (lv_at hA 2 rfl) ?_
  refine wl_call E (ci := 9) (o := 0) (rest := []) (c_X9_lay (d := 0) hW (by omega) hi.1.2.1) (t := 54) rfl kL_27 rfl (by omega) rfl ⟨_, _, rfl⟩ rfl (Nat.le_of_ble_eq_true rfl) (Nat.le_of_ble_eq_true rfl) hA.1 (fun r1 I1 R1 c1 => ?_)
  obtain ⟨c1, rfl⟩ := c1
  have hI := b_lay c1
  refine wl_ref E (t := 55) rfl (lv_at hA 1 rfl) ?_
  refine wl_call E (ci := 10) (o := 115) (rest := [.int (Int32.ofInt r1)]) (c_X10_lay (d := 0) hW (Nat.le_refl _) (j_tx hi hI)) (t := 56) rfl kL_30 rfl (by omega) rfl ⟨_, _, rfl⟩ rfl (Nat.le_of_ble_eq_true rfl) (Nat.le_of_ble_eq_true rfl) hA.1 (fun r2 I2 R2 c2 => ?_)
  obtain ⟨c2, rfl⟩ := c2
  obtain ⟨e9, hi2⟩ := f_lay hi c1 c2
  subst e9
  exact wl_eq E (t := 57) rfl (by decide) (kk _ _ _ _ hi2)
set_option maxRecDepth 100000 in
theorem l_core (E : LCx G p s m b meth c L xs) (hA : lv_has lsA 4 (lLs G b i)) (h0 : 0 ≤ i) (hi3 : i + 3 < L) (hi : Inv I R rho1 rho2) (kk : ∀ I2 R2 r1 r2, Inv I2 R2 r1 r2 → WLg G p e s m b below meth c lsA 773 [] I2 R2) : WLg G p e s m b below meth c lsA 210 [] I R := by
  have hW := hi.2.2.2.2.2.2.2.2.2.2
  refine wl_ref E (t := 60) rfl (lv_at hA 2 rfl) ?_
  refine wl_arg E hA h0 hi3 1 (by decide) (by decide) (t := 61) rfl rfl rfl rfl rfl ?_
  refine wl_arg E hA h0 hi3 2 (by decide) (by decide) (t := 66) rfl rfl rfl rfl rfl ?_
  refine wl_call E (ci := 9) (o := 0) (rest := []) (c_X9_core (d := 0) hW (by omega) hi.2.1.1 (iZPl hi.2.1 hi.2.2.1) (xsI_in xs (i + 1)) (xsI_in xs (i + 2))) (t := 71) rfl kL_31 rfl (by omega) rfl ⟨_, _, rfl⟩ rfl (Nat.le_of_ble_eq_true rfl) (Nat.le_of_ble_eq_true rfl) hA.1 (fun r1 I1 R1 c1 => ?_)
  obtain ⟨c1, rfl, rfl⟩ := c1
  refine wl_ref E (t := 72) rfl (lv_at hA 1 rfl) ?_
  refine wl_arg E hA h0 hi3 1 (by decide) (by decide) (t := 73) rfl rfl rfl rfl rfl ?_
  refine wl_arg E hA h0 hi3 2 (by decide) (by decide) (t := 78) rfl rfl rfl rfl rfl ?_
  refine wl_call E (ci := 10) (o := 115) (rest := [.int (Int32.ofInt r1)]) (c_X10_core (d := 0) hW (Nat.le_refl _) (j_ch hi (fun _ _ => rfl)) (xsI_in xs (i + 1)) (xsI_in xs (i + 2))) (t := 83) rfl kL_35 rfl (by omega) rfl ⟨_, _, rfl⟩ rfl (Nat.le_of_ble_eq_true rfl) (Nat.le_of_ble_eq_true rfl) hA.1 (fun r2 I2 R2 c2 => ?_)
  obtain ⟨c2, rfl⟩ := c2
  obtain ⟨e9, hi2⟩ := f_core hi ⟨c1, rfl⟩ c2
  subst e9
  exact wl_eq E (t := 84) rfl (by decide) (kk _ _ _ _ hi2)
set_option maxRecDepth 100000 in
theorem l_chain (E : LCx G p s m b meth c L xs) (hA : lv_has lsA 4 (lLs G b i)) (h0 : 0 ≤ i) (hi3 : i + 3 < L) (hi : Inv I R rho1 rho2) (kk : ∀ I2 R2 r1 r2, Inv I2 R2 r1 r2 → WLg G p e s m b below meth c lsA 773 [] I2 R2) : WLg G p e s m b below meth c lsA 243 [] I R := by
  have hW := hi.2.2.2.2.2.2.2.2.2.2
  refine wl_ref E (t := 87) rfl (lv_at hA 2 rfl) ?_
  refine wl_arg E hA h0 hi3 1 (by decide) (by decide) (t := 88) rfl rfl rfl rfl rfl ?_
  refine wl_arg E hA h0 hi3 2 (by decide) (by decide) (t := 93) rfl rfl rfl rfl rfl ?_
  refine wl_call E (ci := 9) (o := 0) (rest := []) (c_X9_chain (d := 0) hW (by omega) hi.2.1.1 (xsI_in xs (i + 1)) (xsI_in xs (i + 2))) (t := 98) rfl kL_36 rfl (by omega) rfl ⟨_, _, rfl⟩ rfl (Nat.le_of_ble_eq_true rfl) (Nat.le_of_ble_eq_true rfl) hA.1 (fun r1 I1 R1 c1 => ?_)
  obtain ⟨c1, rfl, rfl⟩ := c1
  refine wl_ref E (t := 99) rfl (lv_at hA 1 rfl) ?_
  refine wl_arg E hA h0 hi3 1 (by decide) (by decide) (t := 100) rfl rfl rfl rfl rfl ?_
  refine wl_arg E hA h0 hi3 2 (by decide) (by decide) (t := 105) rfl rfl rfl rfl rfl ?_
  refine wl_call E (ci := 10) (o := 115) (rest := [.int (Int32.ofInt r1)]) (c_X10_chain (d := 0) hW (Nat.le_refl _) (j_ch hi (fun _ _ => rfl)) (xsI_in xs (i + 1)) (xsI_in xs (i + 2))) (t := 110) rfl kL_39 rfl (by omega) rfl ⟨_, _, rfl⟩ rfl (Nat.le_of_ble_eq_true rfl) (Nat.le_of_ble_eq_true rfl) hA.1 (fun r2 I2 R2 c2 => ?_)
  obtain ⟨c2, z2, rfl⟩ := c2
  obtain ⟨e9, hi2⟩ := f_chain hi ⟨c1, rfl⟩ ⟨c2, z2⟩
  subst e9
  exact wl_eq E (t := 111) rfl (by decide) (kk _ _ _ _ hi2)
set_option maxRecDepth 100000 in
theorem l_wrap (E : LCx G p s m b meth c L xs) (hA : lv_has lsA 4 (lLs G b i)) (h0 : 0 ≤ i) (hi3 : i + 3 < L) (hi : Inv I R rho1 rho2) (kk : ∀ I2 R2 r1 r2, Inv I2 R2 r1 r2 → WLg G p e s m b below meth c lsA 773 [] I2 R2) : WLg G p e s m b below meth c lsA 276 [] I R := by
  have hW := hi.2.2.2.2.2.2.2.2.2.2
  refine wl_ref E (t := 114) rfl (lv_at hA 2 rfl) ?_
  refine wl_arg E hA h0 hi3 1 (by decide) (by decide) (t := 115) rfl rfl rfl rfl rfl ?_
  refine wl_arg E hA h0 hi3 2 (by decide) (by decide) (t := 120) rfl rfl rfl rfl rfl ?_
  refine wl_arg E hA h0 hi3 3 (by decide) (by decide) (t := 125) rfl rfl rfl rfl rfl ?_
  refine wl_call E (ci := 9) (o := 0) (rest := []) (c_X9_wrap (d := 0) hW (by omega) hi.2.1.1 (xsI_in xs (i + 1)) (xsI_in xs (i + 2)) (xsI_in xs (i + 3))) (t := 130) rfl kL_40 rfl (by omega) rfl ⟨_, _, rfl⟩ rfl (Nat.le_of_ble_eq_true rfl) (Nat.le_of_ble_eq_true rfl) hA.1 (fun r1 I1 R1 c1 => ?_)
  obtain ⟨c1, k1, rfl⟩ := c1
  have hI : ∀ b : Nat, 115 ≤ b → I1 b = I b := fun b hb => k1 b (by omega)
  refine wl_ref E (t := 131) rfl (lv_at hA 1 rfl) ?_
  refine wl_arg E hA h0 hi3 1 (by decide) (by decide) (t := 132) rfl rfl rfl rfl rfl ?_
  refine wl_arg E hA h0 hi3 2 (by decide) (by decide) (t := 137) rfl rfl rfl rfl rfl ?_
  refine wl_arg E hA h0 hi3 3 (by decide) (by decide) (t := 142) rfl rfl rfl rfl rfl ?_
  refine wl_call E (ci := 10) (o := 115) (rest := [.int (Int32.ofInt r1)]) (c_X10_wrap (d := 0) hW (Nat.le_refl _) (j_ch hi hI) (xsI_in xs (i + 1)) (xsI_in xs (i + 2)) (xsI_in xs (i + 3))) (t := 147) rfl kL_44 rfl (by omega) rfl ⟨_, _, rfl⟩ rfl (Nat.le_of_ble_eq_true rfl) (Nat.le_of_ble_eq_true rfl) hA.1 (fun r2 I2 R2 c2 => ?_)
  obtain ⟨c2, k2, rfl⟩ := c2
  obtain ⟨e9, hi2⟩ := f_wrap hi ⟨c1, k1⟩ ⟨c2, k2⟩
  subst e9
  exact wl_eq E (t := 148) rfl (by decide) (kk _ _ _ _ hi2)
set_option maxRecDepth 100000 in
theorem l_line (E : LCx G p s m b meth c L xs) (hA : lv_has lsA 4 (lLs G b i)) (h0 : 0 ≤ i) (hi3 : i + 3 < L) (hi : Inv I R rho1 rho2) (kk : ∀ I2 R2 r1 r2, Inv I2 R2 r1 r2 → WLg G p e s m b below meth c lsA 773 [] I2 R2) : WLg G p e s m b below meth c lsA 319 [] I R := by
  have hW := hi.2.2.2.2.2.2.2.2.2.2
  refine wl_ref E (t := 151) rfl (lv_at hA 2 rfl) ?_
  refine wl_arg E hA h0 hi3 1 (by decide) (by decide) (t := 152) rfl rfl rfl rfl rfl ?_
  refine wl_arg E hA h0 hi3 2 (by decide) (by decide) (t := 157) rfl rfl rfl rfl rfl ?_
  refine wl_arg E hA h0 hi3 3 (by decide) (by decide) (t := 162) rfl rfl rfl rfl rfl ?_
  refine wl_call E (ci := 9) (o := 0) (rest := []) (c_X9_line (d := 0) hW (by omega) hi.2.1.1 (xsI_in xs (i + 1)) (xsI_in xs (i + 2)) (xsI_in xs (i + 3))) (t := 167) rfl kL_45 rfl (by omega) rfl ⟨_, _, rfl⟩ rfl (Nat.le_of_ble_eq_true rfl) (Nat.le_of_ble_eq_true rfl) hA.1 (fun r1 I1 R1 c1 => ?_)
  obtain ⟨c1, rfl, rfl⟩ := c1
  refine wl_ref E (t := 168) rfl (lv_at hA 1 rfl) ?_
  refine wl_arg E hA h0 hi3 1 (by decide) (by decide) (t := 169) rfl rfl rfl rfl rfl ?_
  refine wl_arg E hA h0 hi3 2 (by decide) (by decide) (t := 174) rfl rfl rfl rfl rfl ?_
  refine wl_arg E hA h0 hi3 3 (by decide) (by decide) (t := 179) rfl rfl rfl rfl rfl ?_
  refine wl_call E (ci := 10) (o := 115) (rest := [.int (Int32.ofInt r1)]) (c_X10_line (d := 0) hW (Nat.le_refl _) (j_ch hi (fun _ _ => rfl)) (xsI_in xs (i + 1)) (xsI_in xs (i + 2)) (xsI_in xs (i + 3))) (t := 184) rfl kL_48 rfl (by omega) rfl ⟨_, _, rfl⟩ rfl (Nat.le_of_ble_eq_true rfl) (Nat.le_of_ble_eq_true rfl) hA.1 (fun r2 I2 R2 c2 => ?_)
  obtain ⟨c2, k2, rfl⟩ := c2
  obtain ⟨e9, hi2⟩ := f_line hi ⟨c1, rfl⟩ ⟨c2, k2⟩
  subst e9
  exact wl_eq E (t := 185) rfl (by decide) (kk _ _ _ _ hi2)
set_option maxRecDepth 100000 in
theorem l_put (E : LCx G p s m b meth c L xs) (hA : lv_has lsA 4 (lLs G b i)) (h0 : 0 ≤ i) (hi3 : i + 3 < L) (hi : Inv I R rho1 rho2) (kk : ∀ I2 R2 r1 r2, Inv I2 R2 r1 r2 → WLg G p e s m b below meth c lsA 773 [] I2 R2) : WLg G p e s m b below meth c lsA 362 [] I R := by
  have hW := hi.2.2.2.2.2.2.2.2.2.2
  refine wl_ref E (t := 188) rfl (lv_at hA 2 rfl) ?_
  refine wl_arg E hA h0 hi3 1 (by decide) (by decide) (t := 189) rfl rfl rfl rfl rfl ?_
  refine wl_arg E hA h0 hi3 2 (by decide) (by decide) (t := 194) rfl rfl rfl rfl rfl ?_
  refine wl_arg E hA h0 hi3 3 (by decide) (by decide) (t := 199) rfl rfl rfl rfl rfl ?_
  refine wl_call E (ci := 9) (o := 0) (rest := []) (c_X9_put (d := 0) hW (by omega) hi.2.1.1 (iZPl hi.2.1 hi.2.2.1) hi.2.2.2.2.2.2.2.2.1 hi.2.2.2.1.2.1 (xsI_in xs (i + 1)) (xsI_in xs (i + 2)) (xsI_in xs (i + 3))) (t := 204) rfl kL_49 rfl (by omega) rfl ⟨_, _, rfl⟩ rfl (Nat.le_of_ble_eq_true rfl) (Nat.le_of_ble_eq_true rfl) hA.1 (fun r1 I1 R1 c1 => ?_)
  obtain ⟨hI, hW1⟩ := b_put hW c1
  refine wl_ref E (t := 205) rfl (lv_at hA 1 rfl) ?_
  refine wl_arg E hA h0 hi3 1 (by decide) (by decide) (t := 206) rfl rfl rfl rfl rfl ?_
  refine wl_arg E hA h0 hi3 2 (by decide) (by decide) (t := 211) rfl rfl rfl rfl rfl ?_
  refine wl_arg E hA h0 hi3 3 (by decide) (by decide) (t := 216) rfl rfl rfl rfl rfl ?_
  refine wl_call E (ci := 10) (o := 115) (rest := [.int (Int32.ofInt r1)]) (c_X10_put (d := 0) hW1 (Nat.le_refl _) (j_ch hi hI) (j_pl hi hI) (j_12 hi hI) (xsI_in xs (i + 1)) (xsI_in xs (i + 2)) (xsI_in xs (i + 3))) (t := 221) rfl kL_52 rfl (by omega) rfl ⟨_, _, rfl⟩ rfl (Nat.le_of_ble_eq_true rfl) (Nat.le_of_ble_eq_true rfl) hA.1 (fun r2 I2 R2 c2 => ?_)
  obtain ⟨c2, rfl⟩ := c2
  obtain ⟨e9, rho1, hi2⟩ := f_put hi c1 c2
  subst e9
  exact wl_eq E (t := 222) rfl (by decide) (kk _ _ _ _ hi2)
set_option maxRecDepth 100000 in
theorem l_take (E : LCx G p s m b meth c L xs) (hA : lv_has lsA 4 (lLs G b i)) (h0 : 0 ≤ i) (hi3 : i + 3 < L) (hi : Inv I R rho1 rho2) (kk : ∀ I2 R2 r1 r2, Inv I2 R2 r1 r2 → WLg G p e s m b below meth c lsA 773 [] I2 R2) : WLg G p e s m b below meth c lsA 405 [] I R := by
  have hW := hi.2.2.2.2.2.2.2.2.2.2
  refine wl_ref E (t := 225) rfl (lv_at hA 2 rfl) ?_
  refine wl_arg E hA h0 hi3 1 (by decide) (by decide) (t := 226) rfl rfl rfl rfl rfl ?_
  refine wl_call E (ci := 9) (o := 0) (rest := []) (c_X9_take (d := 0) hW (by omega) hi.2.1.1 (iZPl hi.2.1 hi.2.2.1) hi.2.2.2.2.2.2.2.2.1 hi.2.2.2.1.2.1 (xsI_in xs (i + 1))) (t := 231) rfl kL_53 rfl (by omega) rfl ⟨_, _, rfl⟩ rfl (Nat.le_of_ble_eq_true rfl) (Nat.le_of_ble_eq_true rfl) hA.1 (fun r1 I1 R1 c1 => ?_)
  obtain ⟨hI, hW1⟩ := b_take hW c1
  refine wl_ref E (t := 232) rfl (lv_at hA 1 rfl) ?_
  refine wl_arg E hA h0 hi3 1 (by decide) (by decide) (t := 233) rfl rfl rfl rfl rfl ?_
  refine wl_call E (ci := 10) (o := 115) (rest := [.int (Int32.ofInt r1)]) (c_X10_take (d := 0) hW1 (Nat.le_refl _) (j_ch hi hI) (j_pl hi hI) (j_12 hi hI) (xsI_in xs (i + 1))) (t := 238) rfl kL_56 rfl (by omega) rfl ⟨_, _, rfl⟩ rfl (Nat.le_of_ble_eq_true rfl) (Nat.le_of_ble_eq_true rfl) hA.1 (fun r2 I2 R2 c2 => ?_)
  obtain ⟨c2, rfl⟩ := c2
  obtain ⟨e9, rho1, hi2⟩ := f_take hi c1 c2
  subst e9
  exact wl_eq E (t := 239) rfl (by decide) (kk _ _ _ _ hi2)
set_option maxRecDepth 100000 in
theorem l_fill (E : LCx G p s m b meth c L xs) (hA : lv_has lsA 4 (lLs G b i)) (h0 : 0 ≤ i) (hi3 : i + 3 < L) (hi : Inv I R rho1 rho2) (kk : ∀ I2 R2 r1 r2, Inv I2 R2 r1 r2 → WLg G p e s m b below meth c lsA 773 [] I2 R2) : WLg G p e s m b below meth c lsA 428 [] I R := by
  have hW := hi.2.2.2.2.2.2.2.2.2.2
  refine wl_ref E (t := 242) rfl (lv_at hA 2 rfl) ?_
  refine wl_call E (ci := 9) (o := 0) (rest := []) (c_X9_fill (d := 0) hW (by omega) hi.2.1.1 (iGd hi.2.1 hi.2.2.1) (j_fk hi) hi.2.2.2.2.2.2.2.2.1 hi.2.2.2.1.2.1) (t := 243) rfl kL_57 rfl (by omega) rfl ⟨_, _, rfl⟩ rfl (Nat.le_of_ble_eq_true rfl) (Nat.le_of_ble_eq_true rfl) hA.1 (fun r1 I1 R1 c1 => ?_)
  obtain ⟨hI, hW1⟩ := b_fill hW c1
  refine wl_ref E (t := 244) rfl (lv_at hA 1 rfl) ?_
  refine wl_call E (ci := 10) (o := 115) (rest := [.int (Int32.ofInt r1)]) (c_X10_fill (d := 0) hW1 (Nat.le_refl _) (j_ch hi hI) (j_12 hi hI) (j_gd hi hI) (j_fk2 hi hI)) (t := 245) rfl kL_60 rfl (by omega) rfl ⟨_, _, rfl⟩ rfl (Nat.le_of_ble_eq_true rfl) (Nat.le_of_ble_eq_true rfl) hA.1 (fun r2 I2 R2 c2 => ?_)
  obtain ⟨c2, rfl⟩ := c2
  obtain ⟨e9, rho1, hi2⟩ := f_fill hi c1 c2
  subst e9
  exact wl_eq E (t := 246) rfl (by decide) (kk _ _ _ _ hi2)
set_option maxRecDepth 100000 in
theorem l_rename (E : LCx G p s m b meth c L xs) (hA : lv_has lsA 4 (lLs G b i)) (h0 : 0 ≤ i) (hi3 : i + 3 < L) (hi : Inv I R rho1 rho2) (kk : ∀ I2 R2 r1 r2, Inv I2 R2 r1 r2 → WLg G p e s m b below meth c lsA 773 [] I2 R2) : WLg G p e s m b below meth c lsA 441 [] I R := by
  have hW := hi.2.2.2.2.2.2.2.2.2.2
  refine wl_ref E (t := 249) rfl (lv_at hA 2 rfl) ?_
  refine wl_arg E hA h0 hi3 1 (by decide) (by decide) (t := 250) rfl rfl rfl rfl rfl ?_
  refine wl_arg E hA h0 hi3 2 (by decide) (by decide) (t := 255) rfl rfl rfl rfl rfl ?_
  refine wl_call E (ci := 9) (o := 0) (rest := []) (c_X9_rename (d := 0) hW (by omega) hi.2.1.1 hi.2.2.2.2.2.2.2.2.1 hi.2.2.2.1.2.1 (xsI_in xs (i + 1)) (xsI_in xs (i + 2))) (t := 260) rfl kL_61 rfl (by omega) rfl ⟨_, _, rfl⟩ rfl (Nat.le_of_ble_eq_true rfl) (Nat.le_of_ble_eq_true rfl) hA.1 (fun r1 I1 R1 c1 => ?_)
  obtain ⟨hI, hW1⟩ := b_rename hW c1
  refine wl_ref E (t := 261) rfl (lv_at hA 1 rfl) ?_
  refine wl_arg E hA h0 hi3 1 (by decide) (by decide) (t := 262) rfl rfl rfl rfl rfl ?_
  refine wl_arg E hA h0 hi3 2 (by decide) (by decide) (t := 267) rfl rfl rfl rfl rfl ?_
  refine wl_call E (ci := 10) (o := 115) (rest := [.int (Int32.ofInt r1)]) (c_X10_rename (d := 0) hW1 (Nat.le_refl _) (j_ch hi hI) (j_12 hi hI) (xsI_in xs (i + 1)) (xsI_in xs (i + 2))) (t := 272) rfl kL_64 rfl (by omega) rfl ⟨_, _, rfl⟩ rfl (Nat.le_of_ble_eq_true rfl) (Nat.le_of_ble_eq_true rfl) hA.1 (fun r2 I2 R2 c2 => ?_)
  obtain ⟨c2, rfl⟩ := c2
  obtain ⟨e9, rho1, hi2⟩ := f_rename hi c1 c2
  subst e9
  exact wl_eq E (t := 273) rfl (by decide) (kk _ _ _ _ hi2)
set_option maxRecDepth 100000 in
theorem l_undo (E : LCx G p s m b meth c L xs) (hA : lv_has lsA 4 (lLs G b i)) (h0 : 0 ≤ i) (hi3 : i + 3 < L) (hi : Inv I R rho1 rho2) (kk : ∀ I2 R2 r1 r2, Inv I2 R2 r1 r2 → WLg G p e s m b below meth c lsA 773 [] I2 R2) : WLg G p e s m b below meth c lsA 474 [] I R := by
  have hW := hi.2.2.2.2.2.2.2.2.2.2
  refine wl_ref E (t := 276) rfl (lv_at hA 2 rfl) ?_
  refine wl_call E (ci := 9) (o := 0) (rest := []) (c_X9_undo (d := 0) hW (by omega) hi.2.2.2.2.2.2.2.2.1 hi.2.2.2.1.2.1) (t := 277) rfl kL_65 rfl (by omega) rfl ⟨_, _, rfl⟩ rfl (Nat.le_of_ble_eq_true rfl) (Nat.le_of_ble_eq_true rfl) hA.1 (fun r1 I1 R1 c1 => ?_)
  obtain ⟨c1, rfl⟩ := c1
  have hI := b_undo c1
  refine wl_ref E (t := 278) rfl (lv_at hA 1 rfl) ?_
  refine wl_call E (ci := 10) (o := 115) (rest := [.int (Int32.ofInt r1)]) (c_X10_undo (d := 0) hW (Nat.le_refl _) (j_12 hi hI)) (t := 279) rfl kL_68 rfl (by omega) rfl ⟨_, _, rfl⟩ rfl (Nat.le_of_ble_eq_true rfl) (Nat.le_of_ble_eq_true rfl) hA.1 (fun r2 I2 R2 c2 => ?_)
  obtain ⟨c2, rfl⟩ := c2
  obtain ⟨e9, hi2⟩ := f_undo hi c1 c2
  subst e9
  exact wl_eq E (t := 280) rfl (by decide) (kk _ _ _ _ hi2)
set_option maxRecDepth 100000 in
theorem l_why (E : LCx G p s m b meth c L xs) (hA : lv_has lsA 4 (lLs G b i)) (h0 : 0 ≤ i) (hi3 : i + 3 < L) (hi : Inv I R rho1 rho2) (kk : ∀ I2 R2 r1 r2, Inv I2 R2 r1 r2 → WLg G p e s m b below meth c lsA 773 [] I2 R2) : WLg G p e s m b below meth c lsA 487 [] I R := by
  have hW := hi.2.2.2.2.2.2.2.2.2.2
  refine wl_ref E (t := 283) rfl (lv_at hA 2 rfl) ?_
  refine wl_arg E hA h0 hi3 1 (by decide) (by decide) (t := 284) rfl rfl rfl rfl rfl ?_
  refine wl_call E (ci := 9) (o := 0) (rest := []) (c_X9_why (d := 0) hW (by omega) (xsI_in xs (i + 1)) hi.2.2.2.2.2.1.2.1) (t := 289) rfl kL_69 rfl (by omega) rfl ⟨_, _, rfl⟩ rfl (Nat.le_of_ble_eq_true rfl) (Nat.le_of_ble_eq_true rfl) hA.1 (fun r1 I1 R1 c1 => ?_)
  obtain ⟨c1, rfl, rfl⟩ := c1
  refine wl_ref E (t := 290) rfl (lv_at hA 1 rfl) ?_
  refine wl_arg E hA h0 hi3 1 (by decide) (by decide) (t := 291) rfl rfl rfl rfl rfl ?_
  refine wl_call E (ci := 10) (o := 115) (rest := [.int (Int32.ofInt r1)]) (c_X10_why (d := 0) hW (Nat.le_refl _) (xsI_in xs (i + 1)) (j_18 hi (fun _ _ => rfl))) (t := 296) rfl kL_72 rfl (by omega) rfl ⟨_, _, rfl⟩ rfl (Nat.le_of_ble_eq_true rfl) (Nat.le_of_ble_eq_true rfl) hA.1 (fun r2 I2 R2 c2 => ?_)
  obtain ⟨c2, z2, rfl⟩ := c2
  obtain ⟨e9, hi2⟩ := f_why hi ⟨c1, rfl⟩ ⟨c2, z2⟩
  subst e9
  exact wl_eq E (t := 297) rfl (by decide) (kk _ _ _ _ hi2)
set_option maxRecDepth 100000 in
theorem l_soonest (E : LCx G p s m b meth c L xs) (hA : lv_has lsA 4 (lLs G b i)) (h0 : 0 ≤ i) (hi3 : i + 3 < L) (hi : Inv I R rho1 rho2) (kk : ∀ I2 R2 r1 r2, Inv I2 R2 r1 r2 → WLg G p e s m b below meth c lsA 773 [] I2 R2) : WLg G p e s m b below meth c lsA 510 [] I R := by
  have hW := hi.2.2.2.2.2.2.2.2.2.2
  refine wl_ref E (t := 300) rfl (lv_at hA 2 rfl) ?_
  refine wl_arg E hA h0 hi3 1 (by decide) (by decide) (t := 301) rfl rfl rfl rfl rfl ?_
  refine wl_arg E hA h0 hi3 2 (by decide) (by decide) (t := 306) rfl rfl rfl rfl rfl ?_
  refine wl_call E (ci := 9) (o := 0) (rest := []) (c_X9_soonest (d := 0) hW (by omega) hi.2.1.1 (iZPl hi.2.1 hi.2.2.1) (xsI_in xs (i + 1)) (xsI_in xs (i + 2))) (t := 311) rfl kL_73 rfl (by omega) rfl ⟨_, _, rfl⟩ rfl (Nat.le_of_ble_eq_true rfl) (Nat.le_of_ble_eq_true rfl) hA.1 (fun r1 I1 R1 c1 => ?_)
  obtain ⟨c1, rfl, rfl⟩ := c1
  refine wl_ref E (t := 312) rfl (lv_at hA 1 rfl) ?_
  refine wl_arg E hA h0 hi3 1 (by decide) (by decide) (t := 313) rfl rfl rfl rfl rfl ?_
  refine wl_arg E hA h0 hi3 2 (by decide) (by decide) (t := 318) rfl rfl rfl rfl rfl ?_
  refine wl_call E (ci := 10) (o := 115) (rest := [.int (Int32.ofInt r1)]) (c_X10_soonest (d := 0) hW (Nat.le_refl _) (j_ch hi (fun _ _ => rfl)) (j_pl hi (fun _ _ => rfl)) (xsI_in xs (i + 1)) (xsI_in xs (i + 2))) (t := 323) rfl kL_76 rfl (by omega) rfl ⟨_, _, rfl⟩ rfl (Nat.le_of_ble_eq_true rfl) (Nat.le_of_ble_eq_true rfl) hA.1 (fun r2 I2 R2 c2 => ?_)
  obtain ⟨c2, rfl⟩ := c2
  obtain ⟨e9, hi2⟩ := f_soonest hi ⟨c1, rfl⟩ c2
  subst e9
  exact wl_eq E (t := 324) rfl (by decide) (kk _ _ _ _ hi2)
set_option maxRecDepth 100000 in
theorem l_runs (E : LCx G p s m b meth c L xs) (hA : lv_has lsA 4 (lLs G b i)) (h0 : 0 ≤ i) (hi3 : i + 3 < L) (hi : Inv I R rho1 rho2) (kk : ∀ I2 R2 r1 r2, Inv I2 R2 r1 r2 → WLg G p e s m b below meth c lsA 773 [] I2 R2) : WLg G p e s m b below meth c lsA 543 [] I R := by
  have hW := hi.2.2.2.2.2.2.2.2.2.2
  refine wl_ref E (t := 327) rfl (lv_at hA 2 rfl) ?_
  refine wl_arg E hA h0 hi3 1 (by decide) (by decide) (t := 328) rfl rfl rfl rfl rfl ?_
  refine wl_arg E hA h0 hi3 2 (by decide) (by decide) (t := 333) rfl rfl rfl rfl rfl ?_
  refine wl_call E (ci := 9) (o := 0) (rest := []) (c_X9_runs (d := 0) hW (by omega) hi.2.1.1 (xsI_in xs (i + 1)) (xsI_in xs (i + 2))) (t := 338) rfl kL_77 rfl (by omega) rfl ⟨_, _, rfl⟩ rfl (Nat.le_of_ble_eq_true rfl) (Nat.le_of_ble_eq_true rfl) hA.1 (fun r1 I1 R1 c1 => ?_)
  obtain ⟨c1, rfl, rfl⟩ := c1
  refine wl_ref E (t := 339) rfl (lv_at hA 1 rfl) ?_
  refine wl_arg E hA h0 hi3 1 (by decide) (by decide) (t := 340) rfl rfl rfl rfl rfl ?_
  refine wl_arg E hA h0 hi3 2 (by decide) (by decide) (t := 345) rfl rfl rfl rfl rfl ?_
  refine wl_call E (ci := 10) (o := 115) (rest := [.int (Int32.ofInt r1)]) (c_X10_runs (d := 0) hW (Nat.le_refl _) (j_ch hi (fun _ _ => rfl)) (j_pl hi (fun _ _ => rfl)) (xsI_in xs (i + 1)) (xsI_in xs (i + 2))) (t := 350) rfl kL_80 rfl (by omega) rfl ⟨_, _, rfl⟩ rfl (Nat.le_of_ble_eq_true rfl) (Nat.le_of_ble_eq_true rfl) hA.1 (fun r2 I2 R2 c2 => ?_)
  obtain ⟨c2, rfl⟩ := c2
  obtain ⟨e9, hi2⟩ := f_runs hi ⟨c1, rfl⟩ c2
  subst e9
  exact wl_eq E (t := 351) rfl (by decide) (kk _ _ _ _ hi2)
set_option maxRecDepth 100000 in
theorem l_bound (E : LCx G p s m b meth c L xs) (hA : lv_has lsA 4 (lLs G b i)) (h0 : 0 ≤ i) (hi3 : i + 3 < L) (hi : Inv I R rho1 rho2) (kk : ∀ I2 R2 r1 r2, Inv I2 R2 r1 r2 → WLg G p e s m b below meth c lsA 773 [] I2 R2) : WLg G p e s m b below meth c lsA 576 [] I R := by
  have hW := hi.2.2.2.2.2.2.2.2.2.2
  refine wl_ref E (t := 354) rfl (lv_at hA 2 rfl) ?_
  refine wl_arg E hA h0 hi3 1 (by decide) (by decide) (t := 355) rfl rfl rfl rfl rfl ?_
  refine wl_call E (ci := 9) (o := 0) (rest := []) (c_X9_bound (d := 0) hW (by omega) hi.2.1.1 (iZPl hi.2.1 hi.2.2.1) (xsI_in xs (i + 1))) (t := 360) rfl kL_81 rfl (by omega) rfl ⟨_, _, rfl⟩ rfl (Nat.le_of_ble_eq_true rfl) (Nat.le_of_ble_eq_true rfl) hA.1 (fun r1 I1 R1 c1 => ?_)
  obtain ⟨c1, k1, rfl⟩ := c1
  have hI : ∀ b : Nat, 115 ≤ b → I1 b = I b := fun b hb => k1 b (by omega)
  refine wl_ref E (t := 361) rfl (lv_at hA 1 rfl) ?_
  refine wl_arg E hA h0 hi3 1 (by decide) (by decide) (t := 362) rfl rfl rfl rfl rfl ?_
  refine wl_call E (ci := 10) (o := 115) (rest := [.int (Int32.ofInt r1)]) (c_X10_bound (d := 0) hW (Nat.le_refl _) (j_ch hi hI) (xsI_in xs (i + 1))) (t := 367) rfl kL_84 rfl (by omega) rfl ⟨_, _, rfl⟩ rfl (Nat.le_of_ble_eq_true rfl) (Nat.le_of_ble_eq_true rfl) hA.1 (fun r2 I2 R2 c2 => ?_)
  obtain ⟨c2, rfl⟩ := c2
  obtain ⟨e9, hi2⟩ := f_bound hi ⟨c1, k1⟩ c2
  subst e9
  exact wl_eq E (t := 368) rfl (by decide) (kk _ _ _ _ hi2)
set_option maxRecDepth 100000 in
theorem l_best (E : LCx G p s m b meth c L xs) (hA : lv_has lsA 4 (lLs G b i)) (h0 : 0 ≤ i) (hi3 : i + 3 < L) (hi : Inv I R rho1 rho2) (kk : ∀ I2 R2 r1 r2, Inv I2 R2 r1 r2 → WLg G p e s m b below meth c lsA 773 [] I2 R2) : WLg G p e s m b below meth c lsA 599 [] I R := by
  have hW := hi.2.2.2.2.2.2.2.2.2.2
  refine wl_ref E (t := 371) rfl (lv_at hA 2 rfl) ?_
  refine wl_arg E hA h0 hi3 1 (by decide) (by decide) (t := 372) rfl rfl rfl rfl rfl ?_
  refine wl_call E (ci := 9) (o := 0) (rest := []) (c_X9_best (d := 0) (B := bB I) hW (by omega) hi.2.1.1 (j_kk hi) (bBok hi.2.1.1) hi.2.2.2.2.2.2.2.1 (xsI_in xs (i + 1))) (t := 377) rfl kL_85 rfl (by omega) rfl ⟨_, _, rfl⟩ rfl (Nat.le_of_ble_eq_true rfl) (Nat.le_of_ble_eq_true rfl) hA.1 (fun r1 I1 R1 c1 => ?_)
  obtain ⟨c1, rfl⟩ := c1
  obtain ⟨hI, hi1, e34⟩ := b_src c1 hi
  refine wl_ref E (t := 378) rfl (lv_at hA 1 rfl) ?_
  refine wl_arg E hA h0 hi3 1 (by decide) (by decide) (t := 379) rfl rfl rfl rfl rfl ?_
  refine wl_call E (ci := 10) (o := 115) (rest := [.int (Int32.ofInt r1)]) (c_X10_best (d := 0) (Q := zQn (I 34 2)) hW (Nat.le_refl _) (j_ch hi hI) (j_clr hi1 (-4)) (j_ka hi hI) (j_Q hi hI) (xsI_in xs (i + 1))) (t := 384) rfl kL_88 rfl (by omega) rfl ⟨_, _, rfl⟩ rfl (Nat.le_of_ble_eq_true rfl) (Nat.le_of_ble_eq_true rfl) hA.1 (fun r2 I2 R2 c2 => ?_)
  obtain ⟨c2, rfl⟩ := c2
  obtain ⟨e9, hi2⟩ := f_best hi c1 c2
  subst e9
  exact wl_eq E (t := 385) rfl (by decide) (kk _ _ _ _ hi2)
set_option maxRecDepth 100000 in
theorem l_costs (E : LCx G p s m b meth c L xs) (hA : lv_has lsA 4 (lLs G b i)) (h0 : 0 ≤ i) (hi3 : i + 3 < L) (hi : Inv I R rho1 rho2) (kk : ∀ I2 R2 r1 r2, Inv I2 R2 r1 r2 → WLg G p e s m b below meth c lsA 773 [] I2 R2) : WLg G p e s m b below meth c lsA 622 [] I R := by
  have hW := hi.2.2.2.2.2.2.2.2.2.2
  refine wl_ref E (t := 388) rfl (lv_at hA 2 rfl) ?_
  refine wl_arg E hA h0 hi3 1 (by decide) (by decide) (t := 389) rfl rfl rfl rfl rfl ?_
  refine wl_call E (ci := 9) (o := 0) (rest := []) (c_X9_costs (d := 0) (B := bB I) hW (by omega) hi.2.1.1 (j_kk hi) (bBok hi.2.1.1) hi.2.2.2.2.2.2.2.1 (xsI_in xs (i + 1))) (t := 394) rfl kL_89 rfl (by omega) rfl ⟨_, _, rfl⟩ rfl (Nat.le_of_ble_eq_true rfl) (Nat.le_of_ble_eq_true rfl) hA.1 (fun r1 I1 R1 c1 => ?_)
  obtain ⟨c1, rfl⟩ := c1
  obtain ⟨hI, hi1, e34⟩ := b_src c1 hi
  refine wl_ref E (t := 395) rfl (lv_at hA 1 rfl) ?_
  refine wl_arg E hA h0 hi3 1 (by decide) (by decide) (t := 396) rfl rfl rfl rfl rfl ?_
  refine wl_call E (ci := 10) (o := 115) (rest := [.int (Int32.ofInt r1)]) (c_X10_costs (d := 0) (Q := zQn (I 34 2)) hW (Nat.le_refl _) (j_ch hi hI) (j_clr hi1 (-4)) (j_clr2 hi1 _ _) (j_ka hi hI) (j_Q hi hI) (xsI_in xs (i + 1))) (t := 401) rfl kL_92 rfl (by omega) rfl ⟨_, _, rfl⟩ rfl (Nat.le_of_ble_eq_true rfl) (Nat.le_of_ble_eq_true rfl) hA.1 (fun r2 I2 R2 c2 => ?_)
  obtain ⟨c2, rfl⟩ := c2
  obtain ⟨e9, hi2⟩ := f_costs hi c1 c2
  subst e9
  exact wl_eq E (t := 402) rfl (by decide) (kk _ _ _ _ hi2)
set_option maxRecDepth 100000 in
theorem l_seen (E : LCx G p s m b meth c L xs) (hA : lv_has lsA 4 (lLs G b i)) (h0 : 0 ≤ i) (hi3 : i + 3 < L) (hi : Inv I R rho1 rho2) (kk : ∀ I2 R2 r1 r2, Inv I2 R2 r1 r2 → WLg G p e s m b below meth c lsA 773 [] I2 R2) : WLg G p e s m b below meth c lsA 645 [] I R := by
  have hW := hi.2.2.2.2.2.2.2.2.2.2
  refine wl_ref E (t := 405) rfl (lv_at hA 2 rfl) ?_
  refine wl_arg E hA h0 hi3 1 (by decide) (by decide) (t := 406) rfl rfl rfl rfl rfl ?_
  refine wl_arg E hA h0 hi3 2 (by decide) (by decide) (t := 411) rfl rfl rfl rfl rfl ?_
  refine wl_arg E hA h0 hi3 3 (by decide) (by decide) (t := 416) rfl rfl rfl rfl rfl ?_
  refine wl_call E (ci := 9) (o := 0) (rest := []) (c_X9_seen (d := 0) hW (by omega) hi.2.2.2.2.2.2.1.1.1 (xsI_in xs (i + 1)) (xsI_in xs (i + 2)) (xsI_in xs (i + 3))) (t := 421) rfl kL_93 rfl (by omega) rfl ⟨_, _, rfl⟩ rfl (Nat.le_of_ble_eq_true rfl) (Nat.le_of_ble_eq_true rfl) hA.1 (fun r1 I1 R1 c1 => ?_)
  obtain ⟨c1, rfl⟩ := c1
  have hI := b_seen c1
  refine wl_ref E (t := 422) rfl (lv_at hA 1 rfl) ?_
  refine wl_arg E hA h0 hi3 1 (by decide) (by decide) (t := 423) rfl rfl rfl rfl rfl ?_
  refine wl_arg E hA h0 hi3 2 (by decide) (by decide) (t := 428) rfl rfl rfl rfl rfl ?_
  refine wl_arg E hA h0 hi3 3 (by decide) (by decide) (t := 433) rfl rfl rfl rfl rfl ?_
  refine wl_call E (ci := 10) (o := 115) (rest := [.int (Int32.ofInt r1)]) (c_X10_seen (d := 0) hW (Nat.le_refl _) (j_14 hi hI).1 (j_14 hi hI).2 (xsI_in xs (i + 1)) (xsI_in xs (i + 2)) (xsI_in xs (i + 3))) (t := 438) rfl kL_96 rfl (by omega) rfl ⟨_, _, rfl⟩ rfl (Nat.le_of_ble_eq_true rfl) (Nat.le_of_ble_eq_true rfl) hA.1 (fun r2 I2 R2 c2 => ?_)
  obtain ⟨c2, rfl⟩ := c2
  obtain ⟨e9, hi2⟩ := f_seen hi c1 c2
  subst e9
  exact wl_eq E (t := 439) rfl (by decide) (kk _ _ _ _ hi2)
set_option maxRecDepth 100000 in
theorem l_forget (E : LCx G p s m b meth c L xs) (hA : lv_has lsA 4 (lLs G b i)) (h0 : 0 ≤ i) (hi3 : i + 3 < L) (hi : Inv I R rho1 rho2) (kk : ∀ I2 R2 r1 r2, Inv I2 R2 r1 r2 → WLg G p e s m b below meth c lsA 773 [] I2 R2) : WLg G p e s m b below meth c lsA 688 [] I R := by
  have hW := hi.2.2.2.2.2.2.2.2.2.2
  refine wl_ref E (t := 442) rfl (lv_at hA 2 rfl) ?_
  refine wl_call E (ci := 9) (o := 0) (rest := []) (c_X9_forget (d := 0) hW (by omega)) (t := 443) rfl kL_97 rfl (by omega) rfl ⟨_, _, rfl⟩ rfl (Nat.le_of_ble_eq_true rfl) (Nat.le_of_ble_eq_true rfl) hA.1 (fun r1 I1 R1 c1 => ?_)
  obtain ⟨c1, rfl⟩ := c1
  refine wl_ref E (t := 444) rfl (lv_at hA 1 rfl) ?_
  refine wl_call E (ci := 10) (o := 115) (rest := [.int (Int32.ofInt r1)]) (c_X10_forget (d := 0) hW (Nat.le_refl _)) (t := 445) rfl kL_100 rfl (by omega) rfl ⟨_, _, rfl⟩ rfl (Nat.le_of_ble_eq_true rfl) (Nat.le_of_ble_eq_true rfl) hA.1 (fun r2 I2 R2 c2 => ?_)
  obtain ⟨c2, rfl⟩ := c2
  obtain ⟨e9, hi2⟩ := f_forget hi c1 c2
  subst e9
  exact wl_eq E (t := 446) rfl (by decide) (kk _ _ _ _ hi2)
set_option maxRecDepth 100000 in
theorem l_kinds (E : LCx G p s m b meth c L xs) (hA : lv_has lsA 4 (lLs G b i)) (h0 : 0 ≤ i) (hi3 : i + 3 < L) (hi : Inv I R rho1 rho2) (kk : ∀ I2 R2 r1 r2, Inv I2 R2 r1 r2 → WLg G p e s m b below meth c lsA 773 [] I2 R2) : WLg G p e s m b below meth c lsA 701 [] I R := by
  have hW := hi.2.2.2.2.2.2.2.2.2.2
  refine wl_ref E (t := 449) rfl (lv_at hA 2 rfl) ?_
  refine wl_arg E hA h0 hi3 1 (by decide) (by decide) (t := 450) rfl rfl rfl rfl rfl ?_
  refine wl_call E (ci := 9) (o := 0) (rest := []) (c_X9_kinds (d := 0) hW (by omega) hi.2.1.1 hi.2.2.2.2.2.2.1.1 (xsI_in xs (i + 1))) (t := 455) rfl kL_101 rfl (by omega) rfl ⟨_, _, rfl⟩ rfl (Nat.le_of_ble_eq_true rfl) (Nat.le_of_ble_eq_true rfl) hA.1 (fun r1 I1 R1 c1 => ?_)
  obtain ⟨c1, rfl, rfl⟩ := c1
  refine wl_ref E (t := 456) rfl (lv_at hA 1 rfl) ?_
  refine wl_arg E hA h0 hi3 1 (by decide) (by decide) (t := 457) rfl rfl rfl rfl rfl ?_
  refine wl_call E (ci := 10) (o := 115) (rest := [.int (Int32.ofInt r1)]) (c_X10_kinds (d := 0) hW (Nat.le_refl _) (j_ch hi (fun _ _ => rfl)) (j_se hi (fun _ _ => rfl)) (xsI_in xs (i + 1))) (t := 462) rfl kL_104 rfl (by omega) rfl ⟨_, _, rfl⟩ rfl (Nat.le_of_ble_eq_true rfl) (Nat.le_of_ble_eq_true rfl) hA.1 (fun r2 I2 R2 c2 => ?_)
  obtain ⟨c2, rfl⟩ := c2
  obtain ⟨e9, hi2⟩ := f_kinds hi ⟨c1, rfl⟩ c2
  subst e9
  exact wl_eq E (t := 463) rfl (by decide) (kk _ _ _ _ hi2)
set_option maxRecDepth 100000 in
theorem l_keep (E : LCx G p s m b meth c L xs) (hA : lv_has lsA 4 (lLs G b i)) (h0 : 0 ≤ i) (hi3 : i + 3 < L) (hi : Inv I R rho1 rho2) (kk : ∀ I2 R2 r1 r2, Inv I2 R2 r1 r2 → WLg G p e s m b below meth c lsA 773 [] I2 R2) : WLg G p e s m b below meth c lsA 724 [] I R := by
  have hW := hi.2.2.2.2.2.2.2.2.2.2
  refine wl_ref E (t := 466) rfl (lv_at hA 2 rfl) ?_
  refine wl_call E (ci := 9) (o := 0) (rest := []) (c_X9_keep (d := 0) hW (by omega) hi.2.2.2.2.2.2.2.2.2.1 hi.2.2.2.2.1.2.1) (t := 467) rfl kL_105 rfl (by omega) rfl ⟨_, _, rfl⟩ rfl (Nat.le_of_ble_eq_true rfl) (Nat.le_of_ble_eq_true rfl) hA.1 (fun r1 I1 R1 c1 => ?_)
  obtain ⟨hI, hW1⟩ := b_keep hW c1
  refine wl_ref E (t := 468) rfl (lv_at hA 1 rfl) ?_
  refine wl_call E (ci := 10) (o := 115) (rest := [.int (Int32.ofInt r1)]) (c_X10_keep (d := 0) hW1 (Nat.le_refl _) (j_16 hi hI)) (t := 469) rfl kL_108 rfl (by omega) rfl ⟨_, _, rfl⟩ rfl (Nat.le_of_ble_eq_true rfl) (Nat.le_of_ble_eq_true rfl) hA.1 (fun r2 I2 R2 c2 => ?_)
  obtain ⟨c2, rfl⟩ := c2
  obtain ⟨e9, rho2, hi2⟩ := f_keep hi c1 c2
  subst e9
  exact wl_eq E (t := 470) rfl (by decide) (kk _ _ _ _ hi2)
set_option maxRecDepth 100000 in
theorem l_back (E : LCx G p s m b meth c L xs) (hA : lv_has lsA 4 (lLs G b i)) (h0 : 0 ≤ i) (hi3 : i + 3 < L) (hi : Inv I R rho1 rho2) (kk : ∀ I2 R2 r1 r2, Inv I2 R2 r1 r2 → WLg G p e s m b below meth c lsA 773 [] I2 R2) : WLg G p e s m b below meth c lsA 737 [] I R := by
  have hW := hi.2.2.2.2.2.2.2.2.2.2
  refine wl_ref E (t := 473) rfl (lv_at hA 2 rfl) ?_
  refine wl_call E (ci := 9) (o := 0) (rest := []) (c_X9_back (d := 0) hW (by omega) hi.2.2.2.2.2.2.2.2.2.1 hi.2.2.2.2.1.2.1) (t := 474) rfl kL_109 rfl (by omega) rfl ⟨_, _, rfl⟩ rfl (Nat.le_of_ble_eq_true rfl) (Nat.le_of_ble_eq_true rfl) hA.1 (fun r1 I1 R1 c1 => ?_)
  obtain ⟨c1, rfl⟩ := c1
  have hI := b_back c1
  refine wl_ref E (t := 475) rfl (lv_at hA 1 rfl) ?_
  refine wl_call E (ci := 10) (o := 115) (rest := [.int (Int32.ofInt r1)]) (c_X10_back (d := 0) hW (Nat.le_refl _) (j_16 hi hI)) (t := 476) rfl kL_112 rfl (by omega) rfl ⟨_, _, rfl⟩ rfl (Nat.le_of_ble_eq_true rfl) (Nat.le_of_ble_eq_true rfl) hA.1 (fun r2 I2 R2 c2 => ?_)
  obtain ⟨c2, rfl⟩ := c2
  obtain ⟨e9, hi2⟩ := f_back hi c1 c2
  subst e9
  exact wl_eq E (t := 477) rfl (by decide) (kk _ _ _ _ hi2)
set_option maxRecDepth 100000 in
theorem l_count (E : LCx G p s m b meth c L xs) (hA : lv_has lsA 4 (lLs G b i)) (h0 : 0 ≤ i) (hi3 : i + 3 < L) (hi : Inv I R rho1 rho2) (kk : ∀ I2 R2 r1 r2, Inv I2 R2 r1 r2 → WLg G p e s m b below meth c lsA 773 [] I2 R2) : WLg G p e s m b below meth c lsA 750 [] I R := by
  have hW := hi.2.2.2.2.2.2.2.2.2.2
  refine wl_ref E (t := 480) rfl (lv_at hA 2 rfl) ?_
  refine wl_arg E hA h0 hi3 1 (by decide) (by decide) (t := 481) rfl rfl rfl rfl rfl ?_
  refine wl_call E (ci := 9) (o := 0) (rest := []) (c_X9_count (d := 0) hW (by omega) hi.2.1.1 (iZPl hi.2.1 hi.2.2.1) (xsI_in xs (i + 1))) (t := 486) rfl kL_113 rfl (by omega) rfl ⟨_, _, rfl⟩ rfl (Nat.le_of_ble_eq_true rfl) (Nat.le_of_ble_eq_true rfl) hA.1 (fun r1 I1 R1 c1 => ?_)
  obtain ⟨c1, rfl, rfl⟩ := c1
  refine wl_ref E (t := 487) rfl (lv_at hA 1 rfl) ?_
  refine wl_arg E hA h0 hi3 1 (by decide) (by decide) (t := 488) rfl rfl rfl rfl rfl ?_
  refine wl_call E (ci := 10) (o := 115) (rest := [.int (Int32.ofInt r1)]) (c_X10_count (d := 0) hW (Nat.le_refl _) (j_ch hi (fun _ _ => rfl)) (j_pl hi (fun _ _ => rfl)) (xsI_in xs (i + 1))) (t := 493) rfl kL_116 rfl (by omega) rfl ⟨_, _, rfl⟩ rfl (Nat.le_of_ble_eq_true rfl) (Nat.le_of_ble_eq_true rfl) hA.1 (fun r2 I2 R2 c2 => ?_)
  obtain ⟨c2, rfl⟩ := c2
  obtain ⟨e9, hi2⟩ := f_count hi ⟨c1, rfl⟩ c2
  subst e9
  exact wl_eq E (t := 494) rfl (by decide) (kk _ _ _ _ hi2)
end ZLC
