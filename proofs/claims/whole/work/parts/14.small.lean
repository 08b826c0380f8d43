/-! Text, Cause, Sightings, the clearing of a chip -/
set_option maxHeartbeats 4000000 in
set_option maxRecDepth 100000 in
theorem c_X8_add {G : zG} {d n : Nat} {I : zMem} {R : zRef} {x : Int} (hW : zWir n R) (hn : 115 ≤ n) (hx : zin x) (hlen : 0 ≤ I 1 1 ∧ I 1 1 < 200) : MT G mX8_add d 0 0 [zR 1, zI x] n I R (zP0 (fun I' R' => I' = zu (zu I 2 (I 1 1) x) 1 1 (I 1 1 + 1) ∧ R' = R)) := by
  refine MT.of (by decide +kernel) tX8_add_ok (Nat.le_of_ble_eq_true rfl) (fun hI0 => ?_)
  have e1 : zu I 2 (I 1 1) x 1 1 = I 1 1 := zu_na (by decide)
  refine wp_ls (ls' := [some (zR 1), some (zI x)]) rfl ?_
  refine wp_aload_n (t := 0) rfl rfl ?_
  refine wp_getI (t := 1) (ji := 1) rfl fX8_15 rfl rfl (by omega) (by first | rfl | assumption) ?_
  refine wp_aload_n (t := 2) rfl rfl ?_
  refine wp_getR (t := 3) (ji := 0) rfl fX8_9 rfl rfl (by omega) (by first | rfl | assumption) (by first | exact hW _ _ _ (by omega) rfl | assumption) ?_
  refine wp_alen (t := 4) rfl (by omega) (Or.inl rfl) rfl rfl ?_
  refine wp_icmp_lt (t := 5) (tgt := 13) rfl (by decide) (by first | assumption | exact hI0 _ _ | exact zin_and _ _ | (unfold zin; omega) | (unfold zin at *; omega)) (by first | assumption | exact hI0 _ _ | exact zin_and _ _ | (unfold zin; omega) | (unfold zin at *; omega)) (fun h9 => ?_) (fun h9 => ?_)
  · refine wp_aload_n (t := 7) rfl rfl ?_
    refine wp_getR (t := 8) (ji := 0) rfl fX8_9 rfl rfl (by omega) (by first | rfl | assumption) (by first | exact hW _ _ _ (by omega) rfl | assumption) ?_
    refine wp_aload_n (t := 9) rfl rfl ?_
    refine wp_getI (t := 10) (ji := 1) rfl fX8_15 rfl rfl (by omega) (by first | rfl | assumption) ?_
    refine wp_iload_n (t := 11) rfl rfl ?_
    refine wp_iastore (t := 12) rfl (by omega) (by first | rfl | assumption) (by omega) (by omega) (by omega) (by first | assumption | exact hI0 _ _ | exact zin_and _ _ | (unfold zin; omega) | (unfold zin at *; omega)) ?_
    refine wp_canon (fun hI1 => ?_)
    refine wp_aload_n (t := 13) rfl rfl ?_
    refine wp_dup (t := 14) rfl rfl ?_
    refine wp_getI (t := 15) (ji := 1) rfl fX8_15 rfl rfl (by omega) (by first | rfl | assumption) ?_
    rw [e1]
    refine wp_iconst (t := 16) rfl ?_
    refine wp_iadd (t := 17) rfl ?_
    refine wp_putI (t := 18) (ji := 1) rfl fX8_15 p8_1 rfl rfl (by omega) (by first | rfl | assumption) (by first | assumption | exact hI1 _ _ | exact hI0 _ _ | exact zin_and _ _ | (unfold zin; omega) | (unfold zin at *; omega)) ?_
    refine wp_canon (fun hI2 => ?_)
    refine wp_return (t := 19) rfl rfl ?_
    exact ⟨rfl, rfl, rfl⟩
  · refine wp_return (t := 6) rfl rfl ?_
    exact absurd h9 (by omega)
set_option maxHeartbeats 4000000 in
set_option maxRecDepth 100000 in
theorem c_X8_clear {G : zG} {d n : Nat} {I : zMem} {R : zRef} (hn : 115 ≤ n) : MT G mX8_clear d 0 0 [zR 1] n I R (zP0 (fun I' R' => I' = zu I 1 1 0 ∧ R' = R)) := by
  refine MT.of (by decide +kernel) tX8_clear_ok (Nat.le_of_ble_eq_true rfl) (fun hI0 => ?_)
  refine wp_ls (ls' := [some (zR 1)]) rfl ?_
  refine wp_aload_n (t := 0) rfl rfl ?_
  refine wp_iconst (t := 1) rfl ?_
  refine wp_putI (t := 2) (ji := 1) rfl fX8_15 p8_1 rfl rfl (by omega) (by first | rfl | assumption) (by first | assumption | exact hI0 _ _ | exact zin_and _ _ | (unfold zin; omega) | (unfold zin at *; omega)) ?_
  refine wp_canon (fun hI1 => ?_)
  refine wp_return (t := 3) rfl rfl ?_
  exact ⟨rfl, rfl, rfl⟩
/-- the letter, the figure at a place; -4 -/
def zlet (I : zMem) (p : Int) : Int := if 0 ≤ p ∧ p < I 1 1 then I 2 p else -4
def zfig (I : zMem) (p : Int) : Int := if (0 ≤ p ∧ p < I 1 1) ∧ 48 ≤ I 2 p ∧ I 2 p ≤ 57 then I 2 p - 48 else -4
set_option maxHeartbeats 4000000 in
set_option maxRecDepth 100000 in
theorem c_X8_letterAt {G : zG} {d n : Nat} {I : zMem} {R : zRef} {p : Int} (hW : zWir n R) (hn : 115 ≤ n) (hx : zin p) (hlen : 0 ≤ I 1 1 ∧ I 1 1 ≤ 200) : MT G mX8_letterAt d 0 0 [zR 1, zI p] n I R (zP1 (fun r I' R' => r = zlet I p ∧ I' = I ∧ R' = R)) := by
  refine MT.of (by decide +kernel) tX8_letterAt_ok (Nat.le_of_ble_eq_true rfl) (fun hI0 => ?_)
  refine wp_ls (ls' := [some (zR 1), some (zI p)]) rfl ?_
  refine wp_iload_n (t := 0) rfl rfl ?_
  refine wp_if_lt (t := 1) (tgt := 21) rfl (by decide) (by first | assumption | exact hI0 _ _ | exact zin_and _ _ | (unfold zin; omega) | (unfold zin at *; omega)) (fun h1 => ?_) (fun h1 => ?_)
  · refine wp_bipush (t := 11) rfl (by decide) ?_
    refine wp_ireturn (t := 12) rfl rfl ?_
    refine ⟨_, rfl, ?_, rfl, rfl⟩
    unfold zlet
    first | rw [if_pos (by omega)] | rw [if_neg (by omega)]
  · refine wp_iload_n (t := 2) rfl rfl ?_
    refine wp_aload_n (t := 3) rfl rfl ?_
    refine wp_getI (t := 4) (ji := 1) rfl fX8_15 rfl rfl (by omega) (by first | rfl | assumption) ?_
    refine wp_icmp_ge (t := 5) (tgt := 21) rfl (by decide) (by first | assumption | exact hI0 _ _ | exact zin_and _ _ | (unfold zin; omega) | (unfold zin at *; omega)) (by first | assumption | exact hI0 _ _ | exact zin_and _ _ | (unfold zin; omega) | (unfold zin at *; omega)) (fun h9 => ?_) (fun h9 => ?_)
    · refine wp_bipush (t := 11) rfl (by decide) ?_
      refine wp_ireturn (t := 12) rfl rfl ?_
      refine ⟨_, rfl, ?_, rfl, rfl⟩
      unfold zlet
      first | rw [if_pos (by omega)] | rw [if_neg (by omega)]
    · refine wp_aload_n (t := 6) rfl rfl ?_
      refine wp_getR (t := 7) (ji := 0) rfl fX8_9 rfl rfl (by omega) (by first | rfl | assumption) (by first | exact hW _ _ _ (by omega) rfl | assumption) ?_
      refine wp_iload_n (t := 8) rfl rfl ?_
      refine wp_iaload (t := 9) rfl (by omega) (by first | rfl | assumption) (by omega) (by omega) (by omega) ?_
      refine wp_goto (t := 10) (tgt := 23) rfl (by decide) ?_
      refine wp_ireturn (t := 12) rfl rfl ?_
      refine ⟨_, rfl, ?_, rfl, rfl⟩
      unfold zlet
      first | rw [if_pos (by omega)] | rw [if_neg (by omega)]
set_option maxHeartbeats 4000000 in
set_option maxRecDepth 100000 in
theorem c_X8_figureAt {G : zG} {d n : Nat} {I : zMem} {R : zRef} {p : Int} (hW : zWir n R) (hn : 115 ≤ n) (hx : zin p) (hlen : 0 ≤ I 1 1 ∧ I 1 1 ≤ 200) : MT G mX8_figureAt d 0 0 [zR 1, zI p] n I R (zP1 (fun r I' R' => r = zfig I p ∧ I' = I ∧ R' = R)) := by
  refine MT.of (by decide +kernel) tX8_figureAt_ok (Nat.le_of_ble_eq_true rfl) (fun hI0 => ?_)
  refine wp_ls (ls' := [some (zR 1), some (zI p), none]) rfl ?_
  refine wp_iload_n (t := 0) rfl rfl ?_
  refine wp_if_lt (t := 1) (tgt := 12) rfl (by decide) (by first | assumption | exact hI0 _ _ | exact zin_and _ _ | (unfold zin; omega) | (unfold zin at *; omega)) (fun h1 => ?_) (fun h1 => ?_)
  · refine wp_bipush (t := 6) rfl (by decide) ?_
    refine wp_ireturn (t := 7) rfl rfl ?_
    refine ⟨_, rfl, ?_, rfl, rfl⟩
    unfold zfig
    first | rw [if_pos (by omega)] | rw [if_neg (by omega)]
  · refine wp_iload_n (t := 2) rfl rfl ?_
    refine wp_aload_n (t := 3) rfl rfl ?_
    refine wp_getI (t := 4) (ji := 1) rfl fX8_15 rfl rfl (by omega) (by first | rfl | assumption) ?_
    refine wp_icmp_lt (t := 5) (tgt := 15) rfl (by decide) (by first | assumption | exact hI0 _ _ | exact zin_and _ _ | (unfold zin; omega) | (unfold zin at *; omega)) (by first | assumption | exact hI0 _ _ | exact zin_and _ _ | (unfold zin; omega) | (unfold zin at *; omega)) (fun h9 => ?_) (fun h9 => ?_)
    · refine wp_aload_n (t := 8) rfl rfl ?_
      refine wp_getR (t := 9) (ji := 0) rfl fX8_9 rfl rfl (by omega) (by first | rfl | assumption) (by first | exact hW _ _ _ (by omega) rfl | assumption) ?_
      refine wp_iload_n (t := 10) rfl rfl ?_
      refine wp_iaload (t := 11) rfl (by omega) (by first | rfl | assumption) (by omega) (by omega) (by omega) ?_
      refine wp_istore_n (t := 12) rfl (by decide) rfl ?_
      refine wp_iload_n (t := 13) rfl rfl ?_
      refine wp_bipush (t := 14) rfl (by decide) ?_
      refine wp_icmp_lt (t := 15) (tgt := 41) rfl (by decide) (by first | assumption | exact hI0 _ _ | exact zin_and _ _ | (unfold zin; omega) | (unfold zin at *; omega)) (by first | assumption | exact hI0 _ _ | exact zin_and _ _ | (unfold zin; omega) | (unfold zin at *; omega)) (fun h25 => ?_) (fun h25 => ?_)
      · refine wp_bipush (t := 23) rfl (by decide) ?_
        refine wp_ireturn (t := 24) rfl rfl ?_
        refine ⟨_, rfl, ?_, rfl, rfl⟩
        unfold zfig
        first | rw [if_pos (by omega)] | rw [if_neg (by omega)]
      · refine wp_iload_n (t := 16) rfl rfl ?_
        refine wp_bipush (t := 17) rfl (by decide) ?_
        refine wp_icmp_gt (t := 18) (tgt := 41) rfl (by decide) (by first | assumption | exact hI0 _ _ | exact zin_and _ _ | (unfold zin; omega) | (unfold zin at *; omega)) (by first | assumption | exact hI0 _ _ | exact zin_and _ _ | (unfold zin; omega) | (unfold zin at *; omega)) (fun h31 => ?_) (fun h31 => ?_)
        · refine wp_bipush (t := 23) rfl (by decide) ?_
          refine wp_ireturn (t := 24) rfl rfl ?_
          refine ⟨_, rfl, ?_, rfl, rfl⟩
          unfold zfig
          first | rw [if_pos (by omega)] | rw [if_neg (by omega)]
        · refine wp_iload_n (t := 19) rfl rfl ?_
          refine wp_bipush (t := 20) rfl (by decide) ?_
          refine wp_isub (t := 21) rfl ?_
          refine wp_goto (t := 22) (tgt := 43) rfl (by decide) ?_
          refine wp_ireturn (t := 24) rfl rfl ?_
          refine ⟨_, rfl, ?_, rfl, rfl⟩
          unfold zfig
          first | rw [if_pos (by omega)] | rw [if_neg (by omega)]
    · refine wp_bipush (t := 6) rfl (by decide) ?_
      refine wp_ireturn (t := 7) rfl rfl ?_
      refine ⟨_, rfl, ?_, rfl, rfl⟩
      unfold zfig
      first | rw [if_pos (by omega)] | rw [if_neg (by omega)]
set_option maxHeartbeats 4000000 in
set_option maxRecDepth 100000 in
theorem c_X1_clear {G : zG} {d n : Nat} {I : zMem} {R : zRef} (hn : 115 ≤ n) : MT G mX1_clear d 0 0 [zR 109] n I R (zP0 (fun I' R' => I' = zu I 109 1 0 ∧ R' = R)) := by
  refine MT.of (by decide +kernel) tX1_clear_ok (Nat.le_of_ble_eq_true rfl) (fun hI0 => ?_)
  refine wp_ls (ls' := [some (zR 109)]) rfl ?_
  refine wp_aload_n (t := 0) rfl rfl ?_
  refine wp_iconst (t := 1) rfl ?_
  refine wp_putI (t := 2) (ji := 1) rfl fX1_15 p1_1 rfl rfl (by omega) (by first | rfl | assumption) (by first | assumption | exact hI0 _ _ | exact zin_and _ _ | (unfold zin; omega) | (unfold zin at *; omega)) ?_
  refine wp_canon (fun hI1 => ?_)
  refine wp_return (t := 3) rfl rfl ?_
  exact ⟨rfl, rfl, rfl⟩
set_option maxHeartbeats 4000000 in
set_option maxRecDepth 100000 in
theorem c_X1_addThree {G : zG} {d n : Nat} {I : zMem} {R : zRef} {c r t : Int} (hW : zWir n R) (hn : 115 ≤ n) (hm : 0 ≤ I 109 1 ∧ I 109 1 ≤ 1) (hc : 0 ≤ c ∧ c < 6) (hr : zin r) (ht : zin t) : MT G mX1_addThree d 0 0 [zR 109, zI c, zI r, zI t] n I R (zP0 (fun I' R' => I' = zu (zu (zu (zu I 110 (I 109 1) (10 + c)) 110 (I 109 1 + 1) r) 110 (I 109 1 + 2) t) 109 1 (I 109 1 + 3) ∧ R' = R)) := by
  refine MT.of (by decide +kernel) tX1_addThree_ok (Nat.le_of_ble_eq_true rfl) (fun hI0 => ?_)
  have e1 : ∀ (J : zMem) (a b : Int), zu J 110 a b 109 1 = J 109 1 := fun J a b => zu_na (by decide)
  refine wp_ls (ls' := [some (zR 109), some (zI c), some (zI r), some (zI t)]) rfl ?_
  refine wp_aload_n (t := 0) rfl rfl ?_
  refine wp_getI (t := 1) (ji := 1) rfl fX1_15 rfl rfl (by omega) (by first | rfl | assumption) ?_
  refine wp_iconst (t := 2) rfl ?_
  refine wp_iadd (t := 3) rfl ?_
  refine wp_aload_n (t := 4) rfl rfl ?_
  refine wp_getR (t := 5) (ji := 0) rfl fX1_9 rfl rfl (by omega) (by first | rfl | assumption) (by first | exact hW _ _ _ (by omega) rfl | assumption) ?_
  refine wp_alen (t := 6) rfl (by omega) (Or.inl rfl) rfl rfl ?_
  refine wp_icmp_le (t := 7) (tgt := 15) rfl (by decide) (by first | assumption | exact hI0 _ _ | exact zin_and _ _ | (unfold zin; omega) | (unfold zin at *; omega)) (by first | assumption | exact hI0 _ _ | exact zin_and _ _ | (unfold zin; omega) | (unfold zin at *; omega)) (fun h11 => ?_) (fun h11 => ?_)
  · refine wp_aload_n (t := 9) rfl rfl ?_
    refine wp_getR (t := 10) (ji := 0) rfl fX1_9 rfl rfl (by omega) (by first | rfl | assumption) (by first | exact hW _ _ _ (by omega) rfl | assumption) ?_
    refine wp_aload_n (t := 11) rfl rfl ?_
    refine wp_getI (t := 12) (ji := 1) rfl fX1_15 rfl rfl (by omega) (by first | rfl | assumption) ?_
    refine wp_bipush (t := 13) rfl (by decide) ?_
    refine wp_iload_n (t := 14) rfl rfl ?_
    refine wp_iadd (t := 15) rfl ?_
    refine wp_iastore (t := 16) rfl (by omega) (by first | rfl | assumption) (by omega) (by omega) (by omega) (by first | assumption | exact hI0 _ _ | exact zin_and _ _ | (unfold zin; omega) | (unfold zin at *; omega)) ?_
    refine wp_canon (fun hI1 => ?_)
    refine wp_aload_n (t := 17) rfl rfl ?_
    refine wp_getR (t := 18) (ji := 0) rfl fX1_9 rfl rfl (by omega) (by first | rfl | assumption) (by first | exact hW _ _ _ (by omega) rfl | assumption) ?_
    refine wp_aload_n (t := 19) rfl rfl ?_
    refine wp_getI (t := 20) (ji := 1) rfl fX1_15 rfl rfl (by omega) (by first | rfl | assumption) ?_
    rw [e1]
    refine wp_iconst (t := 21) rfl ?_
    refine wp_iadd (t := 22) rfl ?_
    refine wp_iload_n (t := 23) rfl rfl ?_
    refine wp_iastore (t := 24) rfl (by omega) (by first | rfl | assumption) (by omega) (by omega) (by omega) (by first | assumption | exact hI1 _ _ | exact hI0 _ _ | exact zin_and _ _ | (unfold zin; omega) | (unfold zin at *; omega)) ?_
    refine wp_canon (fun hI2 => ?_)
    refine wp_aload_n (t := 25) rfl rfl ?_
    refine wp_getR (t := 26) (ji := 0) rfl fX1_9 rfl rfl (by omega) (by first | rfl | assumption) (by first | exact hW _ _ _ (by omega) rfl | assumption) ?_
    refine wp_aload_n (t := 27) rfl rfl ?_
    refine wp_getI (t := 28) (ji := 1) rfl fX1_15 rfl rfl (by omega) (by first | rfl | assumption) ?_
    rw [e1, e1]
    refine wp_iconst (t := 29) rfl ?_
    refine wp_iadd (t := 30) rfl ?_
    refine wp_iload_n (t := 31) rfl rfl ?_
    refine wp_iastore (t := 32) rfl (by omega) (by first | rfl | assumption) (by omega) (by omega) (by omega) (by first | assumption | exact hI2 _ _ | exact hI1 _ _ | exact hI0 _ _ | exact zin_and _ _ | (unfold zin; omega) | (unfold zin at *; omega)) ?_
    refine wp_canon (fun hI3 => ?_)
    refine wp_aload_n (t := 33) rfl rfl ?_
    refine wp_dup (t := 34) rfl rfl ?_
    refine wp_getI (t := 35) (ji := 1) rfl fX1_15 rfl rfl (by omega) (by first | rfl | assumption) ?_
    rw [e1, e1, e1]
    refine wp_iconst (t := 36) rfl ?_
    refine wp_iadd (t := 37) rfl ?_
    refine wp_putI (t := 38) (ji := 1) rfl fX1_15 p1_1 rfl rfl (by omega) (by first | rfl | assumption) (by first | assumption | exact hI3 _ _ | exact hI2 _ _ | exact hI1 _ _ | exact hI0 _ _ | exact zin_and _ _ | (unfold zin; omega) | (unfold zin at *; omega)) ?_
    refine wp_canon (fun hI4 => ?_)
    refine wp_return (t := 39) rfl rfl ?_
    exact ⟨rfl, rfl, rfl⟩
  · refine wp_return (t := 8) rfl rfl ?_
    exact absurd h11 (by omega)
set_option maxHeartbeats 4000000 in
set_option maxRecDepth 100000 in
theorem c_X1_ofPut {G : zG} {d n : Nat} {I : zMem} {R : zRef} {c r t : Int} (hW : zWir n R) (hn : 115 ≤ n) (hc : 0 ≤ c ∧ c < 6) (hr : zin r) (ht : zin t) : MT G mX1_ofPut (d + 1) 0 0 [zR 109, zI c, zI r, zI t] n I R (zP0 (fun I' R' => (I' 109 1 = 3 ∧ I' 110 0 = 10 + c ∧ I' 110 1 = r ∧ I' 110 2 = t ∧ ∀ b : Nat, b ≠ 109 → b ≠ 110 → I' b = I b) ∧ R' = R)) := by
  refine MT.of (by decide +kernel) tX1_ofPut_ok (Nat.le_of_ble_eq_true rfl) (fun hI0 => ?_)
  have e1 : zu I 109 1 0 109 1 = 0 := zu_eq
  refine wp_ls (ls' := [some (zR 109), some (zI c), some (zI r), some (zI t)]) rfl ?_
  refine wp_aload_n (t := 0) rfl rfl ?_
  refine wp_vv (ci := 1) (c_X1_clear (d := d) hn) (t := 1) rfl kX1_19 rfl rfl (by omega) (by first | rfl | assumption) ⟨_, _, rfl⟩ (Nat.le_of_ble_eq_true rfl) ⟨Nat.le_refl _, Nat.le_refl _⟩ (fun I1 R1 c1 => ?_)
  refine wp_canon (fun hI1 => ?_)
  obtain ⟨rfl, rfl⟩ := c1
  refine wp_aload_n (t := 2) rfl rfl ?_
  refine wp_iload_n (t := 3) rfl rfl ?_
  refine wp_iload_n (t := 4) rfl rfl ?_
  refine wp_iload_n (t := 5) rfl rfl ?_
  refine wp_vv (ci := 1) (c_X1_addThree (d := d) hW hn (by rw [e1]; omega) hc hr ht) (t := 6) rfl kX1_22 rfl rfl (by omega) (by first | rfl | assumption) ⟨_, _, rfl⟩ (Nat.le_of_ble_eq_true rfl) ⟨Nat.le_refl _, Nat.le_refl _⟩ (fun I8 R8 c8 => ?_)
  refine wp_canon (fun hI2 => ?_)
  obtain ⟨e8, rfl⟩ := c8
  refine wp_return (t := 7) rfl rfl ?_
  refine ⟨rfl, ⟨?_, ?_, ?_, ?_, fun b h1 h2 => ?_⟩, rfl⟩
  all_goals rw [e8, e1]
  · rfl
  · rfl
  · rfl
  · rfl
  · rw [zu_ne h1, zu_ne h2, zu_ne h2, zu_ne h2, zu_ne h1]
set_option maxHeartbeats 4000000 in
set_option maxRecDepth 100000 in
theorem c_X1_ofFill {G : zG} {d n : Nat} {I : zMem} {R : zRef} {m c r t : Int} (hW : zWir n R) (hn : 115 ≤ n) (hm : 0 ≤ m ∧ m ≤ 100) (hc : 0 ≤ c ∧ c < 6) (hr : zin r) (ht : zin t) : MT G mX1_ofFill (d + 1) 0 0 [zR 109, zI m, zI c, zI r, zI t] n I R (zP0 (fun I' R' => (I' 109 1 = 4 ∧ I' 110 0 = 20 + m ∧ I' 110 1 = 10 + c ∧ I' 110 2 = r ∧ I' 110 3 = t ∧ ∀ b : Nat, b ≠ 109 → b ≠ 110 → I' b = I b) ∧ R' = R)) := by
  refine MT.of (by decide +kernel) tX1_ofFill_ok (Nat.le_of_ble_eq_true rfl) (fun hI0 => ?_)
  have e1 : zu (zu I 110 0 (20 + m)) 109 1 1 109 1 = 1 := zu_eq
  refine wp_ls (ls' := [some (zR 109), some (zI m), some (zI c), some (zI r), some (zI t)]) rfl ?_
  refine wp_aload_n (t := 0) rfl rfl ?_
  refine wp_getR (t := 1) (ji := 0) rfl fX1_9 rfl rfl (by omega) (by first | rfl | assumption) (by first | exact hW _ _ _ (by omega) rfl | assumption) ?_
  refine wp_iconst (t := 2) rfl ?_
  refine wp_bipush (t := 3) rfl (by decide) ?_
  refine wp_iload_n (t := 4) rfl rfl ?_
  refine wp_iadd (t := 5) rfl ?_
  refine wp_iastore (t := 6) rfl (by omega) (by first | rfl | assumption) (by omega) (by omega) (by omega) (by first | assumption | exact hI0 _ _ | exact zin_and _ _ | (unfold zin; omega) | (unfold zin at *; omega)) ?_
  refine wp_canon (fun hI1 => ?_)
  refine wp_aload_n (t := 7) rfl rfl ?_
  refine wp_iconst (t := 8) rfl ?_
  refine wp_putI (t := 9) (ji := 1) rfl fX1_15 p1_1 rfl rfl (by omega) (by first | rfl | assumption) (by first | assumption | exact hI1 _ _ | exact hI0 _ _ | exact zin_and _ _ | (unfold zin; omega) | (unfold zin at *; omega)) ?_
  refine wp_canon (fun hI2 => ?_)
  refine wp_aload_n (t := 10) rfl rfl ?_
  refine wp_iload_n (t := 11) rfl rfl ?_
  refine wp_iload_n (t := 12) rfl rfl ?_
  refine wp_iload (t := 13) rfl rfl ?_
  refine wp_vv (ci := 1) (c_X1_addThree (d := d) hW hn (by rw [e1]; omega) hc hr ht) (t := 14) rfl kX1_22 rfl rfl (by omega) (by first | rfl | assumption) ⟨_, _, rfl⟩ (Nat.le_of_ble_eq_true rfl) ⟨Nat.le_refl _, Nat.le_refl _⟩ (fun I20 R20 c20 => ?_)
  refine wp_canon (fun hI3 => ?_)
  obtain ⟨e20, rfl⟩ := c20
  refine wp_return (t := 15) rfl rfl ?_
  refine ⟨rfl, ⟨?_, ?_, ?_, ?_, ?_, fun b h1 h2 => ?_⟩, rfl⟩
  all_goals rw [e20, e1]
  · rfl
  · rfl
  · rfl
  · rfl
  · rfl
  · rw [zu_ne h1, zu_ne h2, zu_ne h2, zu_ne h2, zu_ne h1, zu_ne h2]
set_option maxHeartbeats 4000000 in
set_option maxRecDepth 100000 in
theorem c_X1_number {G : zG} {d n : Nat} {I : zMem} {R : zRef} {i : Int} (hW : zWir n R) (hn : 115 ≤ n) (hm : 0 ≤ I 109 1 ∧ I 109 1 ≤ 4) (hi : zin i) : MT G mX1_number d 0 0 [zR 109, zI i] n I R (zP1 (fun r I' R' => r = (if 0 ≤ i ∧ i < I 109 1 then I 110 i else -4) ∧ I' = I ∧ R' = R)) := by
  refine MT.of (by decide +kernel) tX1_number_ok (Nat.le_of_ble_eq_true rfl) (fun hI0 => ?_)
  refine wp_ls (ls' := [some (zR 109), some (zI i)]) rfl ?_
  refine wp_iload_n (t := 0) rfl rfl ?_
  refine wp_if_lt (t := 1) (tgt := 21) rfl (by decide) (by first | assumption | exact hI0 _ _ | exact zin_and _ _ | (unfold zin; omega) | (unfold zin at *; omega)) (fun h1 => ?_) (fun h1 => ?_)
  · refine wp_bipush (t := 11) rfl (by decide) ?_
    refine wp_ireturn (t := 12) rfl rfl ?_
    exact ⟨_, rfl, by first | rw [if_pos (by omega)] | rw [if_neg (by omega)], rfl, rfl⟩
  · refine wp_iload_n (t := 2) rfl rfl ?_
    refine wp_aload_n (t := 3) rfl rfl ?_
    refine wp_getI (t := 4) (ji := 1) rfl fX1_15 rfl rfl (by omega) (by first | rfl | assumption) ?_
    refine wp_icmp_ge (t := 5) (tgt := 21) rfl (by decide) (by first | assumption | exact hI0 _ _ | exact zin_and _ _ | (unfold zin; omega) | (unfold zin at *; omega)) (by first | assumption | exact hI0 _ _ | exact zin_and _ _ | (unfold zin; omega) | (unfold zin at *; omega)) (fun h9 => ?_) (fun h9 => ?_)
    · refine wp_bipush (t := 11) rfl (by decide) ?_
      refine wp_ireturn (t := 12) rfl rfl ?_
      exact ⟨_, rfl, by first | rw [if_pos (by omega)] | rw [if_neg (by omega)], rfl, rfl⟩
    · refine wp_aload_n (t := 6) rfl rfl ?_
      refine wp_getR (t := 7) (ji := 0) rfl fX1_9 rfl rfl (by omega) (by first | rfl | assumption) (by first | exact hW _ _ _ (by omega) rfl | assumption) ?_
      refine wp_iload_n (t := 8) rfl rfl ?_
      refine wp_iaload (t := 9) rfl (by omega) (by first | rfl | assumption) (by omega) (by omega) (by omega) ?_
      refine wp_goto (t := 10) (tgt := 23) rfl (by decide) ?_
      refine wp_ireturn (t := 12) rfl rfl ?_
      exact ⟨_, rfl, by first | rw [if_pos (by omega)] | rw [if_neg (by omega)], rfl, rfl⟩
set_option maxHeartbeats 4000000 in
set_option maxRecDepth 100000 in
theorem c_X7_clear {G : zG} {d n : Nat} {I : zMem} {R : zRef} (hn : 115 ≤ n) : MT G mX7_clear d 0 0 [zR 111] n I R (zP0 (fun I' R' => I' = zu I 111 4 0 ∧ R' = R)) := by
  refine MT.of (by decide +kernel) tX7_clear_ok (Nat.le_of_ble_eq_true rfl) (fun hI0 => ?_)
  refine wp_ls (ls' := [some (zR 111)]) rfl ?_
  refine wp_aload_n (t := 0) rfl rfl ?_
  refine wp_iconst (t := 1) rfl ?_
  refine wp_putI (t := 2) (ji := 4) rfl fX7_21 p7_4 rfl rfl (by omega) (by first | rfl | assumption) (by first | assumption | exact hI0 _ _ | exact zin_and _ _ | (unfold zin; omega) | (unfold zin at *; omega)) ?_
  refine wp_canon (fun hI1 => ?_)
  refine wp_return (t := 3) rfl rfl ?_
  exact ⟨rfl, rfl, rfl⟩
set_option maxHeartbeats 4000000 in
set_option maxRecDepth 100000 in
theorem c_X7_add {G : zG} {d n : Nat} {I : zMem} {R : zRef} {c w t : Int} (hW : zWir n R) (hn : 115 ≤ n) (hm : 0 ≤ I 111 4 ∧ I 111 4 < 6) (hc : zin c) (hw : zin w) (ht : zin t) : MT G mX7_add d 0 0 [zR 111, zI c, zI w, zI t] n I R (zP0 (fun I' R' => I' = zu (zu (zu (zu I 112 (I 111 4) c) 113 (I 111 4) w) 114 (I 111 4) t) 111 4 (I 111 4 + 1) ∧ R' = R)) := by
  refine MT.of (by decide +kernel) tX7_add_ok (Nat.le_of_ble_eq_true rfl) (fun hI0 => ?_)
  have e1 : zu I 112 (I 111 4) c 111 4 = I 111 4 := zu_na (by decide)
  have e2 : zu (zu I 112 (I 111 4) c) 113 (I 111 4) w 111 4 = I 111 4 := by rw [zu_na (by decide), e1]
  have e3 : zu (zu (zu I 112 (I 111 4) c) 113 (I 111 4) w) 114 (I 111 4) t 111 4 = I 111 4 := by rw [zu_na (by decide), e2]
  refine wp_ls (ls' := [some (zR 111), some (zI c), some (zI w), some (zI t)]) rfl ?_
  refine wp_aload_n (t := 0) rfl rfl ?_
  refine wp_getI (t := 1) (ji := 4) rfl fX7_21 rfl rfl (by omega) (by first | rfl | assumption) ?_
  refine wp_bipush (t := 2) rfl (by decide) ?_
  refine wp_icmp_lt (t := 3) (tgt := 10) rfl (by decide) (by first | assumption | exact hI0 _ _ | exact zin_and _ _ | (unfold zin; omega) | (unfold zin at *; omega)) (by first | assumption | exact hI0 _ _ | exact zin_and _ _ | (unfold zin; omega) | (unfold zin at *; omega)) (fun h6 => ?_) (fun h6 => ?_)
  · refine wp_aload_n (t := 5) rfl rfl ?_
    refine wp_getR (t := 6) (ji := 1) rfl fX7_9 rfl rfl (by omega) (by first | rfl | assumption) (by first | exact hW _ _ _ (by omega) rfl | assumption) ?_
    refine wp_aload_n (t := 7) rfl rfl ?_
    refine wp_getI (t := 8) (ji := 4) rfl fX7_21 rfl rfl (by omega) (by first | rfl | assumption) ?_
    refine wp_iload_n (t := 9) rfl rfl ?_
    refine wp_iastore (t := 10) rfl (by omega) (by first | rfl | assumption) (by omega) (by omega) (by omega) (by first | assumption | exact hI0 _ _ | exact zin_and _ _ | (unfold zin; omega) | (unfold zin at *; omega)) ?_
    refine wp_canon (fun hI1 => ?_)
    refine wp_aload_n (t := 11) rfl rfl ?_
    refine wp_getR (t := 12) (ji := 2) rfl fX7_15 rfl rfl (by omega) (by first | rfl | assumption) (by first | exact hW _ _ _ (by omega) rfl | assumption) ?_
    refine wp_aload_n (t := 13) rfl rfl ?_
    refine wp_getI (t := 14) (ji := 4) rfl fX7_21 rfl rfl (by omega) (by first | rfl | assumption) ?_
    rw [e1]
    refine wp_iload_n (t := 15) rfl rfl ?_
    refine wp_iastore (t := 16) rfl (by omega) (by first | rfl | assumption) (by omega) (by omega) (by omega) (by first | assumption | exact hI1 _ _ | exact hI0 _ _ | exact zin_and _ _ | (unfold zin; omega) | (unfold zin at *; omega)) ?_
    refine wp_canon (fun hI2 => ?_)
    refine wp_aload_n (t := 17) rfl rfl ?_
    refine wp_getR (t := 18) (ji := 3) rfl fX7_18 rfl rfl (by omega) (by first | rfl | assumption) (by first | exact hW _ _ _ (by omega) rfl | assumption) ?_
    refine wp_aload_n (t := 19) rfl rfl ?_
    refine wp_getI (t := 20) (ji := 4) rfl fX7_21 rfl rfl (by omega) (by first | rfl | assumption) ?_
    rw [e2]
    refine wp_iload_n (t := 21) rfl rfl ?_
    refine wp_iastore (t := 22) rfl (by omega) (by first | rfl | assumption) (by omega) (by omega) (by omega) (by first | assumption | exact hI2 _ _ | exact hI1 _ _ | exact hI0 _ _ | exact zin_and _ _ | (unfold zin; omega) | (unfold zin at *; omega)) ?_
    refine wp_canon (fun hI3 => ?_)
    refine wp_aload_n (t := 23) rfl rfl ?_
    refine wp_dup (t := 24) rfl rfl ?_
    refine wp_getI (t := 25) (ji := 4) rfl fX7_21 rfl rfl (by omega) (by first | rfl | assumption) ?_
    rw [e3]
    refine wp_iconst (t := 26) rfl ?_
    refine wp_iadd (t := 27) rfl ?_
    refine wp_putI (t := 28) (ji := 4) rfl fX7_21 p7_4 rfl rfl (by omega) (by first | rfl | assumption) (by first | assumption | exact hI3 _ _ | exact hI2 _ _ | exact hI1 _ _ | exact hI0 _ _ | exact zin_and _ _ | (unfold zin; omega) | (unfold zin at *; omega)) ?_
    refine wp_canon (fun hI4 => ?_)
    refine wp_return (t := 29) rfl rfl ?_
    exact ⟨rfl, rfl, rfl⟩
  · refine wp_return (t := 4) rfl rfl ?_
    exact absurd h6 (by omega)
/-- what was seen agrees with kind k of core c -/
def zmis (I : zMem) (c k : Int) : Int := zfirst (fun i => decide (I 112 i = c) && decide (¬ tkOf k (I 36 c) (I (49 + c.toNat) (I 113 i)) = I 114 i)) (I 111 4).toNat
def zSe (I : zMem) : Prop := (0 ≤ I 111 4 ∧ I 111 4 ≤ 6) ∧ ∀ i : Int, 0 ≤ i → i < I 111 4 → (0 ≤ I 112 i ∧ I 112 i < I 34 2) ∧ (1 ≤ I 113 i ∧ I 113 i ≤ I 34 0)
set_option maxHeartbeats 4000000 in
set_option maxRecDepth 100000 in
theorem c_X7_agree {G : zG} {d n : Nat} {I : zMem} {R : zRef} {c k : Int} (hW : zWir n R) (hn : 115 ≤ n) (hch : zCh I) (hse : zSe I) (hc : 0 ≤ c ∧ c < I 34 2) (hk : 0 ≤ k ∧ k ≤ 3) : MT G mX7_agree (d + 2) 0 0 [zR 111, zI c, zI k] n I R (zP1 (fun r I' R' => r = (if zmis I c k = -4 then 1 else 0) ∧ I' = I ∧ R' = R)) := by
  refine MT.of (by decide +kernel) tX7_agree_ok (Nat.le_of_ble_eq_true rfl) (fun hI0 => ?_)
  obtain ⟨hse1, hse2⟩ := hse
  have hco := hch.1
  have hli := hch.2.1
  have hcc := hch.2.2.2.2.1 c hc.1 hc.2
  have key : ∀ (m : Nat) (a : Int), 0 ≤ a → a ≤ I 111 4 → (I 111 4 - a).toNat = m → (∀ i : Int, 0 ≤ i → i < a → (decide (I 112 i = c) && decide (¬ tkOf k (I 36 c) (I (49 + c.toNat) (I 113 i)) = I 114 i)) = false) → WP G mX7_agree (d + 2) 0 0 0 0 2 [some (zR 111), some (zI c), some (zI k), some (zI a)] [] n I R (zP1 (fun r I' R' => r = (if zmis I c k = -4 then 1 else 0) ∧ I' = I ∧ R' = R)) := by
    intro m
    induction m with
    | zero =>
      intro a h0 h1 hm hs
      refine wp_iload_n (t := 2) rfl rfl ?_
      refine wp_aload_n (t := 3) rfl rfl ?_
      refine wp_getI (t := 4) (ji := 4) rfl fX7_21 rfl rfl (by omega) (by first | rfl | assumption) ?_
      refine wp_icmp_ge (t := 5) (tgt := 52) rfl (by decide) (by first | assumption | exact hI0 _ _ | exact zin_and _ _ | (unfold zin; omega) | (unfold zin at *; omega)) (by first | assumption | exact hI0 _ _ | exact zin_and _ _ | (unfold zin; omega) | (unfold zin at *; omega)) (fun h7 => ?_) (fun h7 => ?_)
      · refine wp_iconst (t := 30) rfl ?_
        refine wp_zreturn (t := 31) rfl rfl (by omega) ?_
        refine ⟨_, rfl, (if_pos (zfirst_none (fun i g0 g1 => hs i g0 (by omega)))).symm, rfl, rfl⟩
      · exact absurd h7 (by omega)
    | succ m ih =>
      intro a h0 h1 hm hs
      have hsa := hse2 a h0 (by omega)
      have hlo := hcc.2.2.2.2 (I 113 a) hsa.2.1 hsa.2.2
      have htk := tkOf_b (k := k) hcc.1 hlo
      refine wp_iload_n (t := 2) rfl rfl ?_
      refine wp_aload_n (t := 3) rfl rfl ?_
      refine wp_getI (t := 4) (ji := 4) rfl fX7_21 rfl rfl (by omega) (by first | rfl | assumption) ?_
      refine wp_icmp_ge (t := 5) (tgt := 52) rfl (by decide) (by first | assumption | exact hI0 _ _ | exact zin_and _ _ | (unfold zin; omega) | (unfold zin at *; omega)) (by first | assumption | exact hI0 _ _ | exact zin_and _ _ | (unfold zin; omega) | (unfold zin at *; omega)) (fun h7 => ?_) (fun h7 => ?_)
      · exact absurd h7 (by omega)
      · refine wp_aload_n (t := 6) rfl rfl ?_
        refine wp_getR (t := 7) (ji := 1) rfl fX7_9 rfl rfl (by omega) (by first | rfl | assumption) (by first | exact hW _ _ _ (by omega) rfl | assumption) ?_
        refine wp_iload_n (t := 8) rfl rfl ?_
        refine wp_iaload (t := 9) rfl (by omega) (by first | rfl | assumption) (by omega) (by omega) (by omega) ?_
        refine wp_iload_n (t := 10) rfl rfl ?_
        refine wp_icmp_ne (t := 11) (tgt := 46) rfl (by decide) (by first | assumption | exact hI0 _ _ | exact zin_and _ _ | (unfold zin; omega) | (unfold zin at *; omega)) (by first | assumption | exact hI0 _ _ | exact zin_and _ _ | (unfold zin; omega) | (unfold zin at *; omega)) (fun h17 => ?_) (fun h17 => ?_)
        · refine wp_iinc (t := 28) rfl rfl (by decide) rfl ?_
          refine wp_goto (t := 29) (tgt := 2) rfl (by decide) ?_
          refine ih (a + 1) (by omega) (by omega) (by omega) (fun i g0 g1 => ?_)
          by_cases hia : i = a
          · rw [hia]
            first | (rw [decide_eq_false h17]; rfl) | (rw [decide_eq_false (not_not_intro h41), Bool.and_false])
          · exact hs i g0 (by omega)
        · refine wp_aload_n (t := 12) rfl rfl ?_
          refine wp_getR (t := 13) (ji := 0) rfl fX7_25 rfl rfl (by omega) (by first | rfl | assumption) (by first | exact hW _ _ _ (by omega) rfl | assumption) ?_
          refine wp_iload_n (t := 14) rfl rfl ?_
          refine wp_iload_n (t := 15) rfl rfl ?_
          refine wp_aload_n (t := 16) rfl rfl ?_
          refine wp_getR (t := 17) (ji := 2) rfl fX7_15 rfl rfl (by omega) (by first | rfl | assumption) (by first | exact hW _ _ _ (by omega) rfl | assumption) ?_
          refine wp_iload_n (t := 18) rfl rfl ?_
          refine wp_iaload (t := 19) rfl (by omega) (by first | rfl | assumption) (by omega) (by omega) (by omega) ?_
          refine wp_vi (ci := 2) (c_X2_takes (d := d) hW hn ⟨hc.1, by omega⟩ ⟨by omega, by omega⟩ (by unfold zin; omega) ⟨by omega, by omega⟩ ⟨by omega, by omega⟩) (t := 20) rfl kX7_33 rfl rfl (by omega) (by first | rfl | assumption) ⟨_, _, rfl⟩ (Nat.le_of_ble_eq_true rfl) ⟨Nat.le_refl _, Nat.le_refl _⟩ (fun r32 I32 R32 c32 => ?_)
          refine wp_canon (fun hI1 => ?_)
          obtain ⟨rfl, rfl, rfl⟩ := c32
          refine wp_aload_n (t := 21) rfl rfl ?_
          refine wp_getR (t := 22) (ji := 3) rfl fX7_18 rfl rfl (by omega) (by first | rfl | assumption) (by first | exact hW _ _ _ (by omega) rfl | assumption) ?_
          refine wp_iload_n (t := 23) rfl rfl ?_
          refine wp_iaload (t := 24) rfl (by omega) (by first | rfl | assumption) (by omega) (by omega) (by omega) ?_
          refine wp_icmp_eq (t := 25) (tgt := 46) rfl (by decide) (by first | assumption | exact hI1 _ _ | exact hI0 _ _ | exact zin_and _ _ | (unfold zin; omega) | (unfold zin at *; omega)) (by first | assumption | exact hI1 _ _ | exact hI0 _ _ | exact zin_and _ _ | (unfold zin; omega) | (unfold zin at *; omega)) (fun h41 => ?_) (fun h41 => ?_)
          · refine wp_iinc (t := 28) rfl rfl (by decide) rfl ?_
            refine wp_goto (t := 29) (tgt := 2) rfl (by decide) ?_
            refine ih (a + 1) (by omega) (by omega) (by omega) (fun i g0 g1 => ?_)
            by_cases hia : i = a
            · rw [hia]
              first | (rw [decide_eq_false h17]; rfl) | (rw [decide_eq_false (not_not_intro h41), Bool.and_false])
            · exact hs i g0 (by omega)
          · refine wp_iconst (t := 26) rfl ?_
            refine wp_zreturn (t := 27) rfl rfl (by omega) ?_
            have hz : zmis I32 c k = a := zfirst_some h0 (show a < ((I32 111 4).toNat : Int) by omega) (by rw [decide_eq_true h17, decide_eq_true h41]; rfl) hs
            exact ⟨_, rfl, (if_neg (by omega)).symm, rfl, rfl⟩
  refine wp_ls (ls' := [some (zR 111), some (zI c), some (zI k), none]) rfl ?_
  refine wp_iconst (t := 0) rfl ?_
  refine wp_istore_n (t := 1) rfl (by decide) rfl ?_
  exact key _ 0 (by omega) (by omega) rfl (fun i g0 g1 => absurd g1 (by omega))
/-- of which kinds core c may be, as bits, among the first n kinds -/
def zkb (P : Int → Bool) : Nat → Int
  | 0 => 0
  | n + 1 => if P n then zior (zkb P n) (zishl 1 n) else zkb P n
theorem zkb_succ (P : Int → Bool) {k : Int} (h : 0 ≤ k) : zkb P (k + 1).toNat = if P k then zior (zkb P k.toNat) (zishl 1 k) else zkb P k.toNat := by
  rw [show (k + 1).toNat = k.toNat + 1 by omega]
  show (if P (k.toNat : Int) then zior (zkb P k.toNat) (zishl 1 (k.toNat : Int)) else zkb P k.toNat) = _
  rw [Int.toNat_of_nonneg h]
set_option maxHeartbeats 4000000 in
set_option maxRecDepth 100000 in
theorem c_X7_kindsOf {G : zG} {d n : Nat} {I : zMem} {R : zRef} {c : Int} (hW : zWir n R) (hn : 115 ≤ n) (hch : zCh I) (hse : zSe I) (hc : 0 ≤ c ∧ c < I 34 2) : MT G mX7_kindsOf (d + 3) 0 0 [zR 111, zI c] n I R (zP1 (fun r I' R' => r = zkb (fun k => decide (zmis I c k = -4)) 4 ∧ I' = I ∧ R' = R)) := by
  refine MT.of (by decide +kernel) tX7_kindsOf_ok (Nat.le_of_ble_eq_true rfl) (fun hI0 => ?_)
  have key : ∀ (m : Nat) (k s : Int), 0 ≤ k → k ≤ 4 → (4 - k).toNat = m → s = zkb (fun k => decide (zmis I c k = -4)) k.toNat → WP G mX7_kindsOf (d + 3) 0 0 0 0 4 [some (zR 111), some (zI c), some (zI s), some (zI k)] [] n I R (zP1 (fun r I' R' => r = zkb (fun k => decide (zmis I c k = -4)) 4 ∧ I' = I ∧ R' = R)) := by
    intro m
    induction m with
    | zero =>
      intro k s h0 h1 hm hs
      refine wp_iload_n (t := 4) rfl rfl ?_
      refine wp_iconst (t := 5) rfl ?_
      refine wp_icmp_ge (t := 6) (tgt := 30) rfl (by decide) (by first | assumption | exact hI0 _ _ | exact zin_and _ _ | (unfold zin; omega) | (unfold zin at *; omega)) (by first | assumption | exact hI0 _ _ | exact zin_and _ _ | (unfold zin; omega) | (unfold zin at *; omega)) (fun h6 => ?_) (fun h6 => ?_)
      · refine wp_iload_n (t := 20) rfl rfl ?_
        refine wp_ireturn (t := 21) rfl rfl ?_
        exact ⟨_, rfl, by rw [hs, show k = 4 by omega]; rfl, rfl, rfl⟩
      · exact absurd h6 (by omega)
    | succ m ih =>
      intro k s h0 h1 hm hs
      refine wp_iload_n (t := 4) rfl rfl ?_
      refine wp_iconst (t := 5) rfl ?_
      refine wp_icmp_ge (t := 6) (tgt := 30) rfl (by decide) (by first | assumption | exact hI0 _ _ | exact zin_and _ _ | (unfold zin; omega) | (unfold zin at *; omega)) (by first | assumption | exact hI0 _ _ | exact zin_and _ _ | (unfold zin; omega) | (unfold zin at *; omega)) (fun h6 => ?_) (fun h6 => ?_)
      · exact absurd h6 (by omega)
      · refine wp_aload_n (t := 7) rfl rfl ?_
        refine wp_iload_n (t := 8) rfl rfl ?_
        refine wp_iload_n (t := 9) rfl rfl ?_
        refine wp_vi (ci := 7) (c_X7_agree (d := d) hW hn hch hse hc ⟨h0, by omega⟩) (t := 10) rfl kX7_29 rfl rfl (by omega) (by first | rfl | assumption) ⟨_, _, rfl⟩ (Nat.le_of_ble_eq_true rfl) ⟨Nat.le_refl _, Nat.le_refl _⟩ (fun r12 I12 R12 c12 => ?_)
        refine wp_canon (fun hI1 => ?_)
        obtain ⟨e12, rfl, rfl⟩ := c12
        refine wp_if_eq (t := 11) (tgt := 24) rfl (by decide) (by rw [e12]; unfold zin; split <;> omega) (fun h15 => ?_) (fun h15 => ?_)
        · refine wp_iinc (t := 18) rfl rfl (by decide) rfl ?_
          refine wp_goto (t := 19) (tgt := 4) rfl (by decide) ?_
          refine ih (k + 1) _ (by omega) (by omega) (by omega) ?_
          rw [zkb_succ _ h0, if_neg (fun q => by rw [if_pos (of_decide_eq_true q)] at e12; omega), ← hs]
        · refine wp_iload_n (t := 12) rfl rfl ?_
          refine wp_iconst (t := 13) rfl ?_
          refine wp_iload_n (t := 14) rfl rfl ?_
          refine wp_ishl (t := 15) rfl ?_
          refine wp_ior (t := 16) rfl ?_
          refine wp_istore_n (t := 17) rfl (by decide) rfl ?_
          refine wp_iinc (t := 18) rfl rfl (by decide) rfl ?_
          refine wp_goto (t := 19) (tgt := 4) rfl (by decide) ?_
          refine ih (k + 1) _ (by omega) (by omega) (by omega) ?_
          rw [zkb_succ _ h0, if_pos (decide_eq_true (by by_cases q : zmis I12 c k = -4; exact q; rw [if_neg q] at e12; omega)), ← hs]
  refine wp_ls (ls' := [some (zR 111), some (zI c), none, none]) rfl ?_
  refine wp_iconst (t := 0) rfl ?_
  refine wp_istore_n (t := 1) rfl (by decide) rfl ?_
  refine wp_iconst (t := 2) rfl ?_
  refine wp_istore_n (t := 3) rfl (by decide) rfl ?_
  exact key _ 0 0 (by omega) (by omega) rfl rfl
set_option maxHeartbeats 4000000 in
set_option maxRecDepth 100000 in
theorem c_X2_clear {G : zG} {d n o : Nat} {I : zMem} {R : zRef} (hn : 115 ≤ n) (ho : o = 4 ∨ o = 34) : MT G mX2_clear d 0 0 [zR o] n I R (zP0 (fun I' R' => I' = zu (zu (zu (zu I o 0 4) o 1 20) o 2 0) o 3 0 ∧ R' = R)) := by
  refine MT.of (by decide +kernel) tX2_clear_ok (Nat.le_of_ble_eq_true rfl) (fun hI0 => ?_)
  have hl : (zlay o).1 = 2 := by rcases ho with rfl | rfl <;> rfl
  have ho9 : o < n := by omega
  refine wp_ls (ls' := [some (zR o)]) rfl ?_
  refine wp_aload_n (t := 0) rfl rfl ?_
  refine wp_iconst (t := 1) rfl ?_
  refine wp_putI (t := 2) (ji := 0) rfl fX2_47 p2_0 rfl rfl (by omega) (by first | rfl | assumption) (by first | assumption | exact hI0 _ _ | exact zin_and _ _ | (unfold zin; omega) | (unfold zin at *; omega)) ?_
  refine wp_canon (fun hI1 => ?_)
  refine wp_aload_n (t := 3) rfl rfl ?_
  refine wp_bipush (t := 4) rfl (by decide) ?_
  refine wp_putI (t := 5) (ji := 1) rfl fX2_51 p2_1 rfl rfl (by omega) (by first | rfl | assumption) (by first | assumption | exact hI1 _ _ | exact hI0 _ _ | exact zin_and _ _ | (unfold zin; omega) | (unfold zin at *; omega)) ?_
  refine wp_canon (fun hI2 => ?_)
  refine wp_aload_n (t := 6) rfl rfl ?_
  refine wp_iconst (t := 7) rfl ?_
  refine wp_putI (t := 8) (ji := 2) rfl fX2_54 p2_2 rfl rfl (by omega) (by first | rfl | assumption) (by first | assumption | exact hI2 _ _ | exact hI1 _ _ | exact hI0 _ _ | exact zin_and _ _ | (unfold zin; omega) | (unfold zin at *; omega)) ?_
  refine wp_canon (fun hI3 => ?_)
  refine wp_aload_n (t := 9) rfl rfl ?_
  refine wp_iconst (t := 10) rfl ?_
  refine wp_putI (t := 11) (ji := 3) rfl fX2_57 p2_3 rfl rfl (by omega) (by first | rfl | assumption) (by first | assumption | exact hI3 _ _ | exact hI2 _ _ | exact hI1 _ _ | exact hI0 _ _ | exact zin_and _ _ | (unfold zin; omega) | (unfold zin at *; omega)) ?_
  refine wp_canon (fun hI4 => ?_)
  refine wp_return (t := 12) rfl rfl ?_
  exact ⟨rfl, rfl, rfl⟩
