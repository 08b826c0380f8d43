/-! the small classes' constructors -/
set_option maxHeartbeats 4000000 in
set_option maxRecDepth 100000 in
theorem c_X8_init {G : zG} {d : Nat} {I : zMem} {R : zRef} (hI : ∀ b, 2 ≤ b → ∀ j, I b j = 0) (hR : ∀ b, 2 ≤ b → ∀ j, R b j = none) : MT G mX8_init (d + 1) 1 200 [zR 1] 2 I R (zP0 (fun I' R' => I' = zu I 1 1 0 ∧ R' = zapp R [(1, 0, 2)])) := by
  refine MT.of (by decide +kernel) tX8_init_ok (Nat.le_of_ble_eq_true rfl) (fun hI0 => ?_)
  refine wp_ls (ls' := [some (zR 1)]) rfl (wp_R0 ?_)
  refine wp_aload_n (t := 0) rfl rfl ?_
  refine wp_objI (t := 1) rfl oX8_3 (Nat.le_of_ble_eq_true rfl) ?_
  refine wp_aload_n (t := 2) rfl rfl ?_
  refine wp_sipush (t := 3) rfl (by decide) ?_
  refine wp_newarr (t := 4) (len := 200) rfl rfl (by decide) rfl (fun j => by first | exact hI _ (by omega) j | (rw [zu_ne (by omega)]; exact hI _ (by omega) j) | (rw [zu_ne (by omega), zu_ne (by omega)]; exact hI _ (by omega) j) | (rw [zu_ne (by omega), zu_ne (by omega), zu_ne (by omega)]; exact hI _ (by omega) j)) ⟨Nat.le_of_ble_eq_true rfl, Nat.le_of_ble_eq_true rfl⟩ ?_
  refine wp_putL (t := 5) (ji := 0) rfl fX8_9 q8_0 (fun _ => ⟨rfl, rfl⟩) rfl rfl (by omega) (by first | rfl | assumption) rfl ⟨_, _, rfl⟩ ?_
  refine wp_aload_n (t := 6) rfl rfl ?_
  refine wp_iconst (t := 7) rfl ?_
  refine wp_putI (t := 8) (ji := 1) rfl fX8_15 p8_1 rfl rfl (by omega) (by first | rfl | assumption) (by first | assumption | exact hI0 _ _ | exact zin_and _ _ | (unfold zin; omega) | (unfold zin at *; omega)) ?_
  refine wp_canon (fun hI1 => ?_)
  refine wp_return (t := 9) rfl rfl ?_
  exact ⟨rfl, rfl, rfl⟩
set_option maxHeartbeats 4000000 in
set_option maxRecDepth 100000 in
theorem c_X4_init {G : zG} {d n : Nat} {I : zMem} {R : zRef} (hn : 4 ≤ n) : MT G mX4_init (d + 1) 0 0 [zR 3, zR 1] n I R (zP0 (fun I' R' => I' = zu I 3 1 0 ∧ R' = zapp R [(3, 0, 1)])) := by
  refine MT.of (by decide +kernel) tX4_init_ok (Nat.le_of_ble_eq_true rfl) (fun hI0 => ?_)
  refine wp_ls (ls' := [some (zR 3), some (zR 1)]) rfl (wp_R0 ?_)
  refine wp_aload_n (t := 0) rfl rfl ?_
  refine wp_objI (t := 1) rfl oX4_3 (Nat.le_of_ble_eq_true rfl) ?_
  refine wp_aload_n (t := 2) rfl rfl ?_
  refine wp_iconst (t := 3) rfl ?_
  refine wp_putI (t := 4) (ji := 1) rfl fX4_9 p4_1 rfl rfl (by omega) (by first | rfl | assumption) (by first | assumption | exact hI0 _ _ | exact zin_and _ _ | (unfold zin; omega) | (unfold zin at *; omega)) ?_
  refine wp_canon (fun hI1 => ?_)
  refine wp_aload_n (t := 5) rfl rfl ?_
  refine wp_aload_n (t := 6) rfl rfl ?_
  refine wp_putL (t := 7) (ji := 0) rfl fX4_15 q4_0 (fun _ => ⟨rfl, rfl⟩) rfl rfl (by omega) (by first | rfl | assumption) rfl ⟨_, _, rfl⟩ ?_
  refine wp_return (t := 8) rfl rfl ?_
  exact ⟨rfl, rfl, rfl⟩
def zLc (o : Nat) : List (Nat × Int × Nat) := (o, 14, o + 29) :: (o, 13, o + 28) :: (o, 12, o + 21) :: (zrow (o + 21) 6 ++ ((o, 11, o + 14) :: (zrow (o + 14) 6 ++ ((o, 10, o + 13) :: (o, 9, o + 12) :: (o, 8, o + 5) :: (zrow (o + 5) 6 ++ [(o, 7, o + 4), (o, 6, o + 3), (o, 5, o + 2), (o, 4, o + 1)])))))
set_option maxHeartbeats 4000000 in
set_option maxRecDepth 100000 in
theorem c_X2_init {G : zG} {d o : Nat} {I : zMem} {R : zRef} (ho : o = 4 ∨ o = 34) (hI : ∀ b, o + 1 ≤ b → ∀ j, I b j = 0) (hR : ∀ b, o + 1 ≤ b → ∀ j, R b j = none) : MT G mX2_init (d + 1) 29 486 [zR o] (o + 1) I R (zP0 (fun I' R' => I' = I ∧ R' = zapp R (zLc o))) := by
  rcases ho with rfl | rfl
  all_goals
    refine MT.of (by decide +kernel) tX2_init_ok (Nat.le_of_ble_eq_true rfl) (fun hI0 => ?_)
    refine wp_ls rfl (wp_R0 ?_)
    refine wp_aload_n (t := 0) rfl rfl ?_
    refine wp_objI (t := 1) rfl oX2_3 (Nat.le_of_ble_eq_true rfl) ?_
    refine wp_aload_n (t := 2) rfl rfl ?_
    refine wp_bipush (t := 3) rfl (by decide) ?_
    refine wp_newarr (t := 4) (len := 6) rfl rfl (by decide) rfl (fun j => by first | exact hI _ (by omega) j | (rw [zu_ne (by omega)]; exact hI _ (by omega) j) | (rw [zu_ne (by omega), zu_ne (by omega)]; exact hI _ (by omega) j) | (rw [zu_ne (by omega), zu_ne (by omega), zu_ne (by omega)]; exact hI _ (by omega) j)) ⟨Nat.le_of_ble_eq_true rfl, Nat.le_of_ble_eq_true rfl⟩ ?_
    refine wp_putL (t := 5) (ji := 4) rfl fX2_9 q2_4 (fun _ => ⟨rfl, rfl⟩) rfl rfl (by omega) (by first | rfl | assumption) rfl ⟨_, _, rfl⟩ ?_
    refine wp_aload_n (t := 6) rfl rfl ?_
    refine wp_bipush (t := 7) rfl (by decide) ?_
    refine wp_newarr (t := 8) (len := 6) rfl rfl (by decide) rfl (fun j => by first | exact hI _ (by omega) j | (rw [zu_ne (by omega)]; exact hI _ (by omega) j) | (rw [zu_ne (by omega), zu_ne (by omega)]; exact hI _ (by omega) j) | (rw [zu_ne (by omega), zu_ne (by omega), zu_ne (by omega)]; exact hI _ (by omega) j)) ⟨Nat.le_of_ble_eq_true rfl, Nat.le_of_ble_eq_true rfl⟩ ?_
    refine wp_putL (t := 9) (ji := 5) rfl fX2_15 q2_5 (fun _ => ⟨rfl, rfl⟩) rfl rfl (by omega) (by first | rfl | assumption) rfl ⟨_, _, rfl⟩ ?_
    refine wp_aload_n (t := 10) rfl rfl ?_
    refine wp_bipush (t := 11) rfl (by decide) ?_
    refine wp_newarr (t := 12) (len := 6) rfl rfl (by decide) rfl (fun j => by first | exact hI _ (by omega) j | (rw [zu_ne (by omega)]; exact hI _ (by omega) j) | (rw [zu_ne (by omega), zu_ne (by omega)]; exact hI _ (by omega) j) | (rw [zu_ne (by omega), zu_ne (by omega), zu_ne (by omega)]; exact hI _ (by omega) j)) ⟨Nat.le_of_ble_eq_true rfl, Nat.le_of_ble_eq_true rfl⟩ ?_
    refine wp_putL (t := 13) (ji := 6) rfl fX2_18 q2_6 (fun _ => ⟨rfl, rfl⟩) rfl rfl (by omega) (by first | rfl | assumption) rfl ⟨_, _, rfl⟩ ?_
    refine wp_aload_n (t := 14) rfl rfl ?_
    refine wp_bipush (t := 15) rfl (by decide) ?_
    refine wp_newarr (t := 16) (len := 6) rfl rfl (by decide) rfl (fun j => by first | exact hI _ (by omega) j | (rw [zu_ne (by omega)]; exact hI _ (by omega) j) | (rw [zu_ne (by omega), zu_ne (by omega)]; exact hI _ (by omega) j) | (rw [zu_ne (by omega), zu_ne (by omega), zu_ne (by omega)]; exact hI _ (by omega) j)) ⟨Nat.le_of_ble_eq_true rfl, Nat.le_of_ble_eq_true rfl⟩ ?_
    refine wp_putL (t := 17) (ji := 7) rfl fX2_21 q2_7 (fun _ => ⟨rfl, rfl⟩) rfl rfl (by omega) (by first | rfl | assumption) rfl ⟨_, _, rfl⟩ ?_
    refine wp_aload_n (t := 18) rfl rfl ?_
    refine wp_bipush (t := 19) rfl (by decide) ?_
    refine wp_bipush (t := 20) rfl (by decide) ?_
    refine wp_mna (t := 21) (N' := 6) (K' := 6) rfl aX2_24 rfl rfl (by decide) (by decide) rfl (by decide) (fun b hb j => by first | exact hI _ (by omega) j | (rw [zu_ne (by omega)]; exact hI _ (by omega) j) | (rw [zu_ne (by omega), zu_ne (by omega)]; exact hI _ (by omega) j) | (rw [zu_ne (by omega), zu_ne (by omega), zu_ne (by omega)]; exact hI _ (by omega) j)) (by decide) (hR _ (by omega)) ⟨Nat.le_of_ble_eq_true rfl, Nat.le_of_ble_eq_true rfl⟩ ?_
    refine wp_putL (t := 22) (ji := 8) rfl fX2_26 q2_8 (fun _ => ⟨rfl, rfl⟩) rfl rfl (by omega) (by first | rfl | assumption) rfl ⟨_, _, rfl⟩ ?_
    refine wp_aload_n (t := 23) rfl rfl ?_
    refine wp_bipush (t := 24) rfl (by decide) ?_
    refine wp_newarr (t := 25) (len := 8) rfl rfl (by decide) rfl (fun j => by first | exact hI _ (by omega) j | (rw [zu_ne (by omega)]; exact hI _ (by omega) j) | (rw [zu_ne (by omega), zu_ne (by omega)]; exact hI _ (by omega) j) | (rw [zu_ne (by omega), zu_ne (by omega), zu_ne (by omega)]; exact hI _ (by omega) j)) ⟨Nat.le_of_ble_eq_true rfl, Nat.le_of_ble_eq_true rfl⟩ ?_
    refine wp_putL (t := 26) (ji := 9) rfl fX2_29 q2_9 (fun _ => ⟨rfl, rfl⟩) rfl rfl (by omega) (by first | rfl | assumption) rfl ⟨_, _, rfl⟩ ?_
    refine wp_aload_n (t := 27) rfl rfl ?_
    refine wp_bipush (t := 28) rfl (by decide) ?_
    refine wp_newarr (t := 29) (len := 8) rfl rfl (by decide) rfl (fun j => by first | exact hI _ (by omega) j | (rw [zu_ne (by omega)]; exact hI _ (by omega) j) | (rw [zu_ne (by omega), zu_ne (by omega)]; exact hI _ (by omega) j) | (rw [zu_ne (by omega), zu_ne (by omega), zu_ne (by omega)]; exact hI _ (by omega) j)) ⟨Nat.le_of_ble_eq_true rfl, Nat.le_of_ble_eq_true rfl⟩ ?_
    refine wp_putL (t := 30) (ji := 10) rfl fX2_32 q2_10 (fun _ => ⟨rfl, rfl⟩) rfl rfl (by omega) (by first | rfl | assumption) rfl ⟨_, _, rfl⟩ ?_
    refine wp_aload_n (t := 31) rfl rfl ?_
    refine wp_bipush (t := 32) rfl (by decide) ?_
    refine wp_bipush (t := 33) rfl (by decide) ?_
    refine wp_mna (t := 34) (N' := 6) (K' := 9) rfl aX2_24 rfl rfl (by decide) (by decide) rfl (by decide) (fun b hb j => by first | exact hI _ (by omega) j | (rw [zu_ne (by omega)]; exact hI _ (by omega) j) | (rw [zu_ne (by omega), zu_ne (by omega)]; exact hI _ (by omega) j) | (rw [zu_ne (by omega), zu_ne (by omega), zu_ne (by omega)]; exact hI _ (by omega) j)) (by decide) (hR _ (by omega)) ⟨Nat.le_of_ble_eq_true rfl, Nat.le_of_ble_eq_true rfl⟩ ?_
    refine wp_putL (t := 35) (ji := 11) rfl fX2_35 q2_11 (fun _ => ⟨rfl, rfl⟩) rfl rfl (by omega) (by first | rfl | assumption) rfl ⟨_, _, rfl⟩ ?_
    refine wp_aload_n (t := 36) rfl rfl ?_
    refine wp_bipush (t := 37) rfl (by decide) ?_
    refine wp_bipush (t := 38) rfl (by decide) ?_
    refine wp_mna (t := 39) (N' := 6) (K' := 54) rfl aX2_24 rfl rfl (by decide) (by decide) rfl (by decide) (fun b hb j => by first | exact hI _ (by omega) j | (rw [zu_ne (by omega)]; exact hI _ (by omega) j) | (rw [zu_ne (by omega), zu_ne (by omega)]; exact hI _ (by omega) j) | (rw [zu_ne (by omega), zu_ne (by omega), zu_ne (by omega)]; exact hI _ (by omega) j)) (by decide) (hR _ (by omega)) ⟨Nat.le_of_ble_eq_true rfl, Nat.le_of_ble_eq_true rfl⟩ ?_
    refine wp_putL (t := 40) (ji := 12) rfl fX2_38 q2_12 (fun _ => ⟨rfl, rfl⟩) rfl rfl (by omega) (by first | rfl | assumption) rfl ⟨_, _, rfl⟩ ?_
    refine wp_aload_n (t := 41) rfl rfl ?_
    refine wp_bipush (t := 42) rfl (by decide) ?_
    refine wp_newarr (t := 43) (len := 8) rfl rfl (by decide) rfl (fun j => by first | exact hI _ (by omega) j | (rw [zu_ne (by omega)]; exact hI _ (by omega) j) | (rw [zu_ne (by omega), zu_ne (by omega)]; exact hI _ (by omega) j) | (rw [zu_ne (by omega), zu_ne (by omega), zu_ne (by omega)]; exact hI _ (by omega) j)) ⟨Nat.le_of_ble_eq_true rfl, Nat.le_of_ble_eq_true rfl⟩ ?_
    refine wp_putL (t := 44) (ji := 13) rfl fX2_41 q2_13 (fun _ => ⟨rfl, rfl⟩) rfl rfl (by omega) (by first | rfl | assumption) rfl ⟨_, _, rfl⟩ ?_
    refine wp_aload_n (t := 45) rfl rfl ?_
    refine wp_bipush (t := 46) rfl (by decide) ?_
    refine wp_newarr (t := 47) (len := 6) rfl rfl (by decide) rfl (fun j => by first | exact hI _ (by omega) j | (rw [zu_ne (by omega)]; exact hI _ (by omega) j) | (rw [zu_ne (by omega), zu_ne (by omega)]; exact hI _ (by omega) j) | (rw [zu_ne (by omega), zu_ne (by omega), zu_ne (by omega)]; exact hI _ (by omega) j)) ⟨Nat.le_of_ble_eq_true rfl, Nat.le_of_ble_eq_true rfl⟩ ?_
    refine wp_putL (t := 48) (ji := 14) rfl fX2_44 q2_14 (fun _ => ⟨rfl, rfl⟩) rfl rfl (by omega) (by first | rfl | assumption) rfl ⟨_, _, rfl⟩ ?_
    refine wp_return (t := 49) rfl rfl ?_
    exact ⟨rfl, rfl, rfl⟩
def zLp (o : Nat) : List (Nat × Int × Nat) := [(o, 0, 34), (o, 5, o + 5), (o, 4, o + 4), (o, 3, o + 3), (o, 2, o + 2), (o, 1, o + 1)]
set_option maxHeartbeats 4000000 in
set_option maxRecDepth 100000 in
theorem c_X3_init {G : zG} {d o : Nat} {I : zMem} {R : zRef} (ho : o = 64 ∨ o = 86) (hI : ∀ b, o + 1 ≤ b → ∀ j, I b j = 0) (hR : ∀ b, o + 1 ≤ b → ∀ j, R b j = none) : MT G mX3_init (d + 1) 5 30 [zR o, zR 34] (o + 1) I R (zP0 (fun I' R' => I' = I ∧ R' = zapp R (zLp o))) := by
  rcases ho with rfl | rfl
  all_goals
    refine MT.of (by decide +kernel) tX3_init_ok (Nat.le_of_ble_eq_true rfl) (fun hI0 => ?_)
    refine wp_ls rfl (wp_R0 ?_)
    refine wp_aload_n (t := 0) rfl rfl ?_
    refine wp_objI (t := 1) rfl oX3_3 (Nat.le_of_ble_eq_true rfl) ?_
    refine wp_aload_n (t := 2) rfl rfl ?_
    refine wp_bipush (t := 3) rfl (by decide) ?_
    refine wp_newarr (t := 4) (len := 6) rfl rfl (by decide) rfl (fun j => by first | exact hI _ (by omega) j | (rw [zu_ne (by omega)]; exact hI _ (by omega) j) | (rw [zu_ne (by omega), zu_ne (by omega)]; exact hI _ (by omega) j) | (rw [zu_ne (by omega), zu_ne (by omega), zu_ne (by omega)]; exact hI _ (by omega) j)) ⟨Nat.le_of_ble_eq_true rfl, Nat.le_of_ble_eq_true rfl⟩ ?_
    refine wp_putL (t := 5) (ji := 1) rfl fX3_9 q3_1 (fun _ => ⟨rfl, rfl⟩) rfl rfl (by omega) (by first | rfl | assumption) rfl ⟨_, _, rfl⟩ ?_
    refine wp_aload_n (t := 6) rfl rfl ?_
    refine wp_bipush (t := 7) rfl (by decide) ?_
    refine wp_newarr (t := 8) (len := 6) rfl rfl (by decide) rfl (fun j => by first | exact hI _ (by omega) j | (rw [zu_ne (by omega)]; exact hI _ (by omega) j) | (rw [zu_ne (by omega), zu_ne (by omega)]; exact hI _ (by omega) j) | (rw [zu_ne (by omega), zu_ne (by omega), zu_ne (by omega)]; exact hI _ (by omega) j)) ⟨Nat.le_of_ble_eq_true rfl, Nat.le_of_ble_eq_true rfl⟩ ?_
    refine wp_putL (t := 9) (ji := 2) rfl fX3_15 q3_2 (fun _ => ⟨rfl, rfl⟩) rfl rfl (by omega) (by first | rfl | assumption) rfl ⟨_, _, rfl⟩ ?_
    refine wp_aload_n (t := 10) rfl rfl ?_
    refine wp_bipush (t := 11) rfl (by decide) ?_
    refine wp_newarr (t := 12) (len := 6) rfl rfl (by decide) rfl (fun j => by first | exact hI _ (by omega) j | (rw [zu_ne (by omega)]; exact hI _ (by omega) j) | (rw [zu_ne (by omega), zu_ne (by omega)]; exact hI _ (by omega) j) | (rw [zu_ne (by omega), zu_ne (by omega), zu_ne (by omega)]; exact hI _ (by omega) j)) ⟨Nat.le_of_ble_eq_true rfl, Nat.le_of_ble_eq_true rfl⟩ ?_
    refine wp_putL (t := 13) (ji := 3) rfl fX3_18 q3_3 (fun _ => ⟨rfl, rfl⟩) rfl rfl (by omega) (by first | rfl | assumption) rfl ⟨_, _, rfl⟩ ?_
    refine wp_aload_n (t := 14) rfl rfl ?_
    refine wp_bipush (t := 15) rfl (by decide) ?_
    refine wp_newarr (t := 16) (len := 6) rfl rfl (by decide) rfl (fun j => by first | exact hI _ (by omega) j | (rw [zu_ne (by omega)]; exact hI _ (by omega) j) | (rw [zu_ne (by omega), zu_ne (by omega)]; exact hI _ (by omega) j) | (rw [zu_ne (by omega), zu_ne (by omega), zu_ne (by omega)]; exact hI _ (by omega) j)) ⟨Nat.le_of_ble_eq_true rfl, Nat.le_of_ble_eq_true rfl⟩ ?_
    refine wp_putL (t := 17) (ji := 4) rfl fX3_21 q3_4 (fun _ => ⟨rfl, rfl⟩) rfl rfl (by omega) (by first | rfl | assumption) rfl ⟨_, _, rfl⟩ ?_
    refine wp_aload_n (t := 18) rfl rfl ?_
    refine wp_bipush (t := 19) rfl (by decide) ?_
    refine wp_newarr (t := 20) (len := 6) rfl rfl (by decide) rfl (fun j => by first | exact hI _ (by omega) j | (rw [zu_ne (by omega)]; exact hI _ (by omega) j) | (rw [zu_ne (by omega), zu_ne (by omega)]; exact hI _ (by omega) j) | (rw [zu_ne (by omega), zu_ne (by omega), zu_ne (by omega)]; exact hI _ (by omega) j)) ⟨Nat.le_of_ble_eq_true rfl, Nat.le_of_ble_eq_true rfl⟩ ?_
    refine wp_putL (t := 21) (ji := 5) rfl fX3_24 q3_5 (fun _ => ⟨rfl, rfl⟩) rfl rfl (by omega) (by first | rfl | assumption) rfl ⟨_, _, rfl⟩ ?_
    refine wp_aload_n (t := 22) rfl rfl ?_
    refine wp_aload_n (t := 23) rfl rfl ?_
    refine wp_putL (t := 24) (ji := 0) rfl fX3_27 q3_0 (fun _ => ⟨rfl, rfl⟩) rfl rfl (by omega) (by first | rfl | assumption) rfl ⟨_, _, rfl⟩ ?_
    refine wp_return (t := 25) rfl rfl ?_
    exact ⟨rfl, rfl, rfl⟩
set_option maxHeartbeats 4000000 in
set_option maxRecDepth 100000 in
theorem c_X0_init {G : zG} {d o : Nat} {I : zMem} {R : zRef} (ho : o = 70 ∨ o = 92) (hI : ∀ b, o + 1 ≤ b → ∀ j, I b j = 0) (hR : ∀ b, o + 1 ≤ b → ∀ j, R b j = none) : MT G mX0_init (d + 1) 1 6 [zR o, zR 34] (o + 1) I R (zP0 (fun I' R' => I' = I ∧ R' = zapp R [(o, 0, 34), (o, 1, o + 1)])) := by
  rcases ho with rfl | rfl
  all_goals
    refine MT.of (by decide +kernel) tX0_init_ok (Nat.le_of_ble_eq_true rfl) (fun hI0 => ?_)
    refine wp_ls rfl (wp_R0 ?_)
    refine wp_aload_n (t := 0) rfl rfl ?_
    refine wp_objI (t := 1) rfl oX0_3 (Nat.le_of_ble_eq_true rfl) ?_
    refine wp_aload_n (t := 2) rfl rfl ?_
    refine wp_bipush (t := 3) rfl (by decide) ?_
    refine wp_newarr (t := 4) (len := 6) rfl rfl (by decide) rfl (fun j => by first | exact hI _ (by omega) j | (rw [zu_ne (by omega)]; exact hI _ (by omega) j) | (rw [zu_ne (by omega), zu_ne (by omega)]; exact hI _ (by omega) j) | (rw [zu_ne (by omega), zu_ne (by omega), zu_ne (by omega)]; exact hI _ (by omega) j)) ⟨Nat.le_of_ble_eq_true rfl, Nat.le_of_ble_eq_true rfl⟩ ?_
    refine wp_putL (t := 5) (ji := 1) rfl fX0_9 q0_1 (fun _ => ⟨rfl, rfl⟩) rfl rfl (by omega) (by first | rfl | assumption) rfl ⟨_, _, rfl⟩ ?_
    refine wp_aload_n (t := 6) rfl rfl ?_
    refine wp_aload_n (t := 7) rfl rfl ?_
    refine wp_putL (t := 8) (ji := 0) rfl fX0_15 q0_0 (fun _ => ⟨rfl, rfl⟩) rfl rfl (by omega) (by first | rfl | assumption) rfl ⟨_, _, rfl⟩ ?_
    refine wp_return (t := 9) rfl rfl ?_
    exact ⟨rfl, rfl, rfl⟩
set_option maxHeartbeats 4000000 in
set_option maxRecDepth 100000 in
theorem c_X1_init {G : zG} {d : Nat} {I : zMem} {R : zRef} (hI : ∀ b, 110 ≤ b → ∀ j, I b j = 0) (hR : ∀ b, 110 ≤ b → ∀ j, R b j = none) : MT G mX1_init (d + 1) 1 4 [zR 109] 110 I R (zP0 (fun I' R' => I' = zu I 109 1 0 ∧ R' = zapp R [(109, 0, 110)])) := by
  refine MT.of (by decide +kernel) tX1_init_ok (Nat.le_of_ble_eq_true rfl) (fun hI0 => ?_)
  refine wp_ls rfl (wp_R0 ?_)
  refine wp_aload_n (t := 0) rfl rfl ?_
  refine wp_objI (t := 1) rfl oX1_3 (Nat.le_of_ble_eq_true rfl) ?_
  refine wp_aload_n (t := 2) rfl rfl ?_
  refine wp_iconst (t := 3) rfl ?_
  refine wp_newarr (t := 4) (len := 4) rfl rfl (by decide) rfl (fun j => by first | exact hI _ (by omega) j | (rw [zu_ne (by omega)]; exact hI _ (by omega) j) | (rw [zu_ne (by omega), zu_ne (by omega)]; exact hI _ (by omega) j) | (rw [zu_ne (by omega), zu_ne (by omega), zu_ne (by omega)]; exact hI _ (by omega) j)) ⟨Nat.le_of_ble_eq_true rfl, Nat.le_of_ble_eq_true rfl⟩ ?_
  refine wp_putL (t := 5) (ji := 0) rfl fX1_9 q1_0 (fun _ => ⟨rfl, rfl⟩) rfl rfl (by omega) (by first | rfl | assumption) rfl ⟨_, _, rfl⟩ ?_
  refine wp_aload_n (t := 6) rfl rfl ?_
  refine wp_iconst (t := 7) rfl ?_
  refine wp_putI (t := 8) (ji := 1) rfl fX1_15 p1_1 rfl rfl (by omega) (by first | rfl | assumption) (by first | assumption | exact hI0 _ _ | exact zin_and _ _ | (unfold zin; omega) | (unfold zin at *; omega)) ?_
  refine wp_canon (fun hI1 => ?_)
  refine wp_return (t := 9) rfl rfl ?_
  exact ⟨rfl, rfl, rfl⟩
set_option maxHeartbeats 4000000 in
set_option maxRecDepth 100000 in
theorem c_X7_init {G : zG} {d : Nat} {I : zMem} {R : zRef} (hI : ∀ b, 112 ≤ b → ∀ j, I b j = 0) (hR : ∀ b, 112 ≤ b → ∀ j, R b j = none) : MT G mX7_init (d + 1) 3 18 [zR 111, zR 34] 112 I R (zP0 (fun I' R' => I' = zu I 111 4 0 ∧ R' = zapp R [(111, 0, 34), (111, 3, 114), (111, 2, 113), (111, 1, 112)])) := by
  refine MT.of (by decide +kernel) tX7_init_ok (Nat.le_of_ble_eq_true rfl) (fun hI0 => ?_)
  refine wp_ls rfl (wp_R0 ?_)
  refine wp_aload_n (t := 0) rfl rfl ?_
  refine wp_objI (t := 1) rfl oX7_3 (Nat.le_of_ble_eq_true rfl) ?_
  refine wp_aload_n (t := 2) rfl rfl ?_
  refine wp_bipush (t := 3) rfl (by decide) ?_
  refine wp_newarr (t := 4) (len := 6) rfl rfl (by decide) rfl (fun j => by first | exact hI _ (by omega) j | (rw [zu_ne (by omega)]; exact hI _ (by omega) j) | (rw [zu_ne (by omega), zu_ne (by omega)]; exact hI _ (by omega) j) | (rw [zu_ne (by omega), zu_ne (by omega), zu_ne (by omega)]; exact hI _ (by omega) j)) ⟨Nat.le_of_ble_eq_true rfl, Nat.le_of_ble_eq_true rfl⟩ ?_
  refine wp_putL (t := 5) (ji := 1) rfl fX7_9 q7_1 (fun _ => ⟨rfl, rfl⟩) rfl rfl (by omega) (by first | rfl | assumption) rfl ⟨_, _, rfl⟩ ?_
  refine wp_aload_n (t := 6) rfl rfl ?_
  refine wp_bipush (t := 7) rfl (by decide) ?_
  refine wp_newarr (t := 8) (len := 6) rfl rfl (by decide) rfl (fun j => by first | exact hI _ (by omega) j | (rw [zu_ne (by omega)]; exact hI _ (by omega) j) | (rw [zu_ne (by omega), zu_ne (by omega)]; exact hI _ (by omega) j) | (rw [zu_ne (by omega), zu_ne (by omega), zu_ne (by omega)]; exact hI _ (by omega) j)) ⟨Nat.le_of_ble_eq_true rfl, Nat.le_of_ble_eq_true rfl⟩ ?_
  refine wp_putL (t := 9) (ji := 2) rfl fX7_15 q7_2 (fun _ => ⟨rfl, rfl⟩) rfl rfl (by omega) (by first | rfl | assumption) rfl ⟨_, _, rfl⟩ ?_
  refine wp_aload_n (t := 10) rfl rfl ?_
  refine wp_bipush (t := 11) rfl (by decide) ?_
  refine wp_newarr (t := 12) (len := 6) rfl rfl (by decide) rfl (fun j => by first | exact hI _ (by omega) j | (rw [zu_ne (by omega)]; exact hI _ (by omega) j) | (rw [zu_ne (by omega), zu_ne (by omega)]; exact hI _ (by omega) j) | (rw [zu_ne (by omega), zu_ne (by omega), zu_ne (by omega)]; exact hI _ (by omega) j)) ⟨Nat.le_of_ble_eq_true rfl, Nat.le_of_ble_eq_true rfl⟩ ?_
  refine wp_putL (t := 13) (ji := 3) rfl fX7_18 q7_3 (fun _ => ⟨rfl, rfl⟩) rfl rfl (by omega) (by first | rfl | assumption) rfl ⟨_, _, rfl⟩ ?_
  refine wp_aload_n (t := 14) rfl rfl ?_
  refine wp_iconst (t := 15) rfl ?_
  refine wp_putI (t := 16) (ji := 4) rfl fX7_21 p7_4 rfl rfl (by omega) (by first | rfl | assumption) (by first | assumption | exact hI0 _ _ | exact zin_and _ _ | (unfold zin; omega) | (unfold zin at *; omega)) ?_
  refine wp_canon (fun hI1 => ?_)
  refine wp_aload_n (t := 17) rfl rfl ?_
  refine wp_aload_n (t := 18) rfl rfl ?_
  refine wp_putL (t := 19) (ji := 0) rfl fX7_25 q7_0 (fun _ => ⟨rfl, rfl⟩) rfl rfl (by omega) (by first | rfl | assumption) rfl ⟨_, _, rfl⟩ ?_
  refine wp_return (t := 20) rfl rfl ?_
  exact ⟨rfl, rfl, rfl⟩
