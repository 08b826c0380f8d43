/-! the shelves' and the search's constructors -/
set_option maxHeartbeats 4000000 in
set_option maxRecDepth 100000 in
theorem c_X6_init8 {G : zG} {d : Nat} {I : zMem} {R : zRef} (hI : ∀ b, 96 ≤ b → ∀ j, I b j = 0) (hR : ∀ b, 96 ≤ b → ∀ j, R b j = none) : MT G mX6_init (d + 1) 9 200 [zR 95, zI 8] 96 I R (zP0 (fun I' R' => I' = zu I 95 1 0 ∧ R' = zapp R ((95, 0, 96) :: (zrow 96 8 ++ [])))) := by
  refine MT.of (by decide +kernel) tX6_init_ok (Nat.le_of_ble_eq_true rfl) (fun hI0 => ?_)
  refine wp_ls rfl (wp_R0 ?_)
  refine wp_aload_n (t := 0) rfl rfl ?_
  refine wp_objI (t := 1) rfl oX6_3 (Nat.le_of_ble_eq_true rfl) ?_
  refine wp_aload_n (t := 2) rfl rfl ?_
  refine wp_iconst (t := 3) rfl ?_
  refine wp_putI (t := 4) (ji := 1) rfl fX6_9 p6_1 rfl rfl (by omega) (by first | rfl | assumption) (by first | assumption | exact hI0 _ _ | exact zin_and _ _ | (unfold zin; omega) | (unfold zin at *; omega)) ?_
  refine wp_canon (fun hI1 => ?_)
  refine wp_aload_n (t := 5) rfl rfl ?_
  refine wp_iload_n (t := 6) rfl rfl ?_
  refine wp_iconst (t := 7) rfl ?_
  refine wp_max (t := 8) rfl (wsL_law_r5_l (List.mem_of_getElem? (i := 23) rfl)) (by first | assumption | exact hI1 _ _ | exact hI0 _ _ | exact zin_and _ _ | (unfold zin; omega) | (unfold zin at *; omega)) (by first | assumption | exact hI1 _ _ | exact hI0 _ _ | exact zin_and _ _ | (unfold zin; omega) | (unfold zin at *; omega)) (Nat.le_of_ble_eq_true rfl) ⟨Nat.le_of_ble_eq_true rfl, Nat.le_of_ble_eq_true rfl⟩ ?_
  refine wp_bipush (t := 9) rfl (by decide) ?_
  refine wp_mna (t := 10) (N' := 8) (K' := 24) rfl aX6_21 (by decide) rfl (by decide) (by decide) rfl (by decide) (fun b hb j => by first | exact hI _ (by omega) j | (rw [zu_ne (by omega)]; exact hI _ (by omega) j) | (rw [zu_ne (by omega), zu_ne (by omega)]; exact hI _ (by omega) j) | (rw [zu_ne (by omega), zu_ne (by omega), zu_ne (by omega)]; exact hI _ (by omega) j)) (by decide) (hR _ (by omega)) ⟨Nat.le_of_ble_eq_true rfl, Nat.le_of_ble_eq_true rfl⟩ ?_
  refine wp_putL (t := 11) (ji := 0) rfl fX6_23 q6_0 (fun _ => ⟨rfl, rfl⟩) rfl rfl (by omega) (by first | rfl | assumption) rfl ⟨_, _, rfl⟩ ?_
  refine wp_return (t := 12) rfl rfl ?_
  exact ⟨rfl, rfl, rfl⟩
set_option maxHeartbeats 4000000 in
set_option maxRecDepth 100000 in
theorem c_X6_init2 {G : zG} {d : Nat} {I : zMem} {R : zRef} (hI : ∀ b, 106 ≤ b → ∀ j, I b j = 0) (hR : ∀ b, 106 ≤ b → ∀ j, R b j = none) : MT G mX6_init (d + 1) 3 50 [zR 105, zI 2] 106 I R (zP0 (fun I' R' => I' = zu I 105 1 0 ∧ R' = zapp R ((105, 0, 106) :: (zrow 106 2 ++ [])))) := by
  refine MT.of (by decide +kernel) tX6_init_ok (Nat.le_of_ble_eq_true rfl) (fun hI0 => ?_)
  refine wp_ls rfl (wp_R0 ?_)
  refine wp_aload_n (t := 0) rfl rfl ?_
  refine wp_objI (t := 1) rfl oX6_3 (Nat.le_of_ble_eq_true rfl) ?_
  refine wp_aload_n (t := 2) rfl rfl ?_
  refine wp_iconst (t := 3) rfl ?_
  refine wp_putI (t := 4) (ji := 1) rfl fX6_9 p6_1 rfl rfl (by omega) (by first | rfl | assumption) (by first | assumption | exact hI0 _ _ | exact zin_and _ _ | (unfold zin; omega) | (unfold zin at *; omega)) ?_
  refine wp_canon (fun hI1 => ?_)
  refine wp_aload_n (t := 5) rfl rfl ?_
  refine wp_iload_n (t := 6) rfl rfl ?_
  refine wp_iconst (t := 7) rfl ?_
  refine wp_max (t := 8) rfl (wsL_law_r5_l (List.mem_of_getElem? (i := 23) rfl)) (by first | assumption | exact hI1 _ _ | exact hI0 _ _ | exact zin_and _ _ | (unfold zin; omega) | (unfold zin at *; omega)) (by first | assumption | exact hI1 _ _ | exact hI0 _ _ | exact zin_and _ _ | (unfold zin; omega) | (unfold zin at *; omega)) (Nat.le_of_ble_eq_true rfl) ⟨Nat.le_of_ble_eq_true rfl, Nat.le_of_ble_eq_true rfl⟩ ?_
  refine wp_bipush (t := 9) rfl (by decide) ?_
  refine wp_mna (t := 10) (N' := 2) (K' := 24) rfl aX6_21 (by decide) rfl (by decide) (by decide) rfl (by decide) (fun b hb j => by first | exact hI _ (by omega) j | (rw [zu_ne (by omega)]; exact hI _ (by omega) j) | (rw [zu_ne (by omega), zu_ne (by omega)]; exact hI _ (by omega) j) | (rw [zu_ne (by omega), zu_ne (by omega), zu_ne (by omega)]; exact hI _ (by omega) j)) (by decide) (hR _ (by omega)) ⟨Nat.le_of_ble_eq_true rfl, Nat.le_of_ble_eq_true rfl⟩ ?_
  refine wp_putL (t := 11) (ji := 0) rfl fX6_23 q6_0 (fun _ => ⟨rfl, rfl⟩) rfl rfl (by omega) (by first | rfl | assumption) rfl ⟨_, _, rfl⟩ ?_
  refine wp_return (t := 12) rfl rfl ?_
  exact ⟨rfl, rfl, rfl⟩
def zLse : List (Nat × Int × Nat) := (72, 2, 92) :: ([(92, 0, 34), (92, 1, 93)] ++ ((72, 1, 86) :: (zLp 86 ++ ((72, 0, 34) :: (72, 6, 85) :: (72, 5, 84) :: (72, 4, 74) :: (zrow 74 9 ++ [(72, 3, 73)])))))
set_option maxHeartbeats 4000000 in
set_option maxRecDepth 100000 in
theorem c_X5_init {G : zG} {d : Nat} {I : zMem} {R : zRef} (hI : ∀ b, 73 ≤ b → ∀ j, I b j = 0) (hR : ∀ b, 73 ≤ b → ∀ j, R b j = none) : MT G mX5_init (d + 2) 21 131 [zR 72, zR 34] 73 I R (zP0 (fun I' R' => (∀ b, b ≠ 72 → I' b = I b) ∧ R' = zapp R zLse)) := by
  refine MT.of (by decide +kernel) tX5_init_ok (Nat.le_of_ble_eq_true rfl) (fun hI0 => ?_)
  refine wp_ls rfl (wp_R0 ?_)
  refine wp_aload_n (t := 0) rfl rfl ?_
  refine wp_objI (t := 1) rfl oX5_3 (Nat.le_of_ble_eq_true rfl) ?_
  refine wp_aload_n (t := 2) rfl rfl ?_
  refine wp_bipush (t := 3) rfl (by decide) ?_
  refine wp_newarr (t := 4) (len := 6) rfl rfl (by decide) rfl (fun j => by first | exact hI _ (by omega) j | (rw [zu_ne (by omega)]; exact hI _ (by omega) j) | (rw [zu_ne (by omega), zu_ne (by omega)]; exact hI _ (by omega) j) | (rw [zu_ne (by omega), zu_ne (by omega), zu_ne (by omega)]; exact hI _ (by omega) j)) ⟨Nat.le_of_ble_eq_true rfl, Nat.le_of_ble_eq_true rfl⟩ ?_
  refine wp_putL (t := 5) (ji := 3) rfl fX5_9 q5_3 (fun _ => ⟨rfl, rfl⟩) rfl rfl (by omega) (by first | rfl | assumption) rfl ⟨_, _, rfl⟩ ?_
  refine wp_aload_n (t := 6) rfl rfl ?_
  refine wp_bipush (t := 7) rfl (by decide) ?_
  refine wp_bipush (t := 8) rfl (by decide) ?_
  refine wp_mna (t := 9) (N' := 9) (K' := 6) rfl aX5_15 rfl rfl (by decide) (by decide) rfl (by decide) (fun b hb j => by first | exact hI _ (by omega) j | (rw [zu_ne (by omega)]; exact hI _ (by omega) j) | (rw [zu_ne (by omega), zu_ne (by omega)]; exact hI _ (by omega) j) | (rw [zu_ne (by omega), zu_ne (by omega), zu_ne (by omega)]; exact hI _ (by omega) j)) (by decide) (hR _ (by omega)) ⟨Nat.le_of_ble_eq_true rfl, Nat.le_of_ble_eq_true rfl⟩ ?_
  refine wp_putL (t := 10) (ji := 4) rfl fX5_17 q5_4 (fun _ => ⟨rfl, rfl⟩) rfl rfl (by omega) (by first | rfl | assumption) rfl ⟨_, _, rfl⟩ ?_
  refine wp_aload_n (t := 11) rfl rfl ?_
  refine wp_bipush (t := 12) rfl (by decide) ?_
  refine wp_newarr (t := 13) (len := 9) rfl rfl (by decide) rfl (fun j => by first | exact hI _ (by omega) j | (rw [zu_ne (by omega)]; exact hI _ (by omega) j) | (rw [zu_ne (by omega), zu_ne (by omega)]; exact hI _ (by omega) j) | (rw [zu_ne (by omega), zu_ne (by omega), zu_ne (by omega)]; exact hI _ (by omega) j)) ⟨Nat.le_of_ble_eq_true rfl, Nat.le_of_ble_eq_true rfl⟩ ?_
  refine wp_putL (t := 14) (ji := 5) rfl fX5_20 q5_5 (fun _ => ⟨rfl, rfl⟩) rfl rfl (by omega) (by first | rfl | assumption) rfl ⟨_, _, rfl⟩ ?_
  refine wp_aload_n (t := 15) rfl rfl ?_
  refine wp_bipush (t := 16) rfl (by decide) ?_
  refine wp_newarr (t := 17) (len := 9) rfl rfl (by decide) rfl (fun j => by first | exact hI _ (by omega) j | (rw [zu_ne (by omega)]; exact hI _ (by omega) j) | (rw [zu_ne (by omega), zu_ne (by omega)]; exact hI _ (by omega) j) | (rw [zu_ne (by omega), zu_ne (by omega), zu_ne (by omega)]; exact hI _ (by omega) j)) ⟨Nat.le_of_ble_eq_true rfl, Nat.le_of_ble_eq_true rfl⟩ ?_
  refine wp_putL (t := 18) (ji := 6) rfl fX5_23 q5_6 (fun _ => ⟨rfl, rfl⟩) rfl rfl (by omega) (by first | rfl | assumption) rfl ⟨_, _, rfl⟩ ?_
  refine wp_aload_n (t := 19) rfl rfl ?_
  refine wp_iconst (t := 20) rfl ?_
  refine wp_putI (t := 21) (ji := 7) rfl fX5_26 p5_7 rfl rfl (by omega) (by first | rfl | assumption) (by first | assumption | exact hI0 _ _ | exact zin_and _ _ | (unfold zin; omega) | (unfold zin at *; omega)) ?_
  refine wp_canon (fun hI1 => ?_)
  refine wp_aload_n (t := 22) rfl rfl ?_
  refine wp_ldc (1000000) (t := 23) rfl (wsL_law_r5_l (List.mem_of_getElem? (i := 8) rfl)) (by decide) ?_
  refine wp_putI (t := 24) (ji := 8) rfl fX5_31 p5_8 rfl rfl (by omega) (by first | rfl | assumption) (by first | assumption | exact hI1 _ _ | exact hI0 _ _ | exact zin_and _ _ | (unfold zin; omega) | (unfold zin at *; omega)) ?_
  refine wp_canon (fun hI2 => ?_)
  refine wp_aload_n (t := 25) rfl rfl ?_
  refine wp_iconst (t := 26) rfl ?_
  refine wp_putI (t := 27) (ji := 9) rfl fX5_34 p5_9 rfl rfl (by omega) (by first | rfl | assumption) (by first | assumption | exact hI2 _ _ | exact hI1 _ _ | exact hI0 _ _ | exact zin_and _ _ | (unfold zin; omega) | (unfold zin at *; omega)) ?_
  refine wp_canon (fun hI3 => ?_)
  refine wp_aload_n (t := 28) rfl rfl ?_
  refine wp_aload_n (t := 29) rfl rfl ?_
  refine wp_putL (t := 30) (ji := 0) rfl fX5_37 q5_0 (fun _ => ⟨rfl, rfl⟩) rfl rfl (by omega) (by first | rfl | assumption) rfl ⟨_, _, rfl⟩ ?_
  refine wp_aload_n (t := 31) rfl rfl ?_
  refine wp_new (t := 32) rfl nX5_41 rfl (fun j => by first | exact hI _ (by omega) j | (rw [zu_ne (by omega)]; exact hI _ (by omega) j) | (rw [zu_ne (by omega), zu_ne (by omega)]; exact hI _ (by omega) j) | (rw [zu_ne (by omega), zu_ne (by omega), zu_ne (by omega)]; exact hI _ (by omega) j)) (zapp_none (by decide) (hR _ (by omega))) d3 ⟨Nat.le_of_ble_eq_true rfl, Nat.le_of_ble_eq_true rfl⟩ ?_
  refine wp_dup (t := 33) rfl rfl ?_
  refine wp_aload_n (t := 34) rfl rfl ?_
  refine wp_init (c_X3_init (d := d) (o := 86) (Or.inr rfl) (fun b hb j => by rw [zu_ne (by omega), zu_ne (by omega), zu_ne (by omega)]; exact hI _ (by omega) j) (fun b hb j => (congrFun (zapp_out (fun x hx => by have : x.1 < 86 := (show ∀ x ∈ ((72, 0, 34) :: (72, 6, 85) :: (72, 5, 84) :: (72, 4, 74) :: (zrow 74 9 ++ [(72, 3, 73)]) : List (Nat × Int × Nat)), x.1 < 86 by decide) x hx; omega)) j).trans (hR _ (by omega) j))) (t := 35) rfl iX5_43 rfl rfl (Nat.le_of_ble_eq_true rfl) ⟨Nat.le_of_ble_eq_true rfl, Nat.le_of_ble_eq_true rfl⟩ (fun I67 R67 c67 => ?_)
  refine wp_canon (fun hI4 => ?_)
  obtain ⟨rfl, rfl⟩ := c67
  rw [zapp_app]
  refine wp_putL (t := 36) (ji := 1) rfl fX5_46 q5_1 (fun _ => ⟨rfl, rfl⟩) rfl rfl (by omega) (by first | rfl | assumption) rfl ⟨_, _, rfl⟩ ?_
  refine wp_aload_n (t := 37) rfl rfl ?_
  refine wp_new (t := 38) rfl nX5_50 rfl (fun j => by first | exact hI _ (by omega) j | (rw [zu_ne (by omega)]; exact hI _ (by omega) j) | (rw [zu_ne (by omega), zu_ne (by omega)]; exact hI _ (by omega) j) | (rw [zu_ne (by omega), zu_ne (by omega), zu_ne (by omega)]; exact hI _ (by omega) j)) (zapp_none (by decide) (hR _ (by omega))) d0 ⟨Nat.le_of_ble_eq_true rfl, Nat.le_of_ble_eq_true rfl⟩ ?_
  refine wp_dup (t := 39) rfl rfl ?_
  refine wp_aload_n (t := 40) rfl rfl ?_
  refine wp_init (c_X0_init (d := d) (o := 92) (Or.inr rfl) (fun b hb j => by rw [zu_ne (by omega), zu_ne (by omega), zu_ne (by omega)]; exact hI _ (by omega) j) (fun b hb j => (congrFun (zapp_out (fun x hx => by have : x.1 < 92 := (show ∀ x ∈ ((72, 1, 86) :: (zLp 86 ++ ((72, 0, 34) :: (72, 6, 85) :: (72, 5, 84) :: (72, 4, 74) :: (zrow 74 9 ++ [(72, 3, 73)]))) : List (Nat × Int × Nat)), x.1 < 92 by decide) x hx; omega)) j).trans (hR _ (by omega) j))) (t := 41) rfl iX5_52 rfl rfl (Nat.le_of_ble_eq_true rfl) ⟨Nat.le_of_ble_eq_true rfl, Nat.le_of_ble_eq_true rfl⟩ (fun I79 R79 c79 => ?_)
  refine wp_canon (fun hI5 => ?_)
  obtain ⟨rfl, rfl⟩ := c79
  rw [zapp_app]
  refine wp_putL (t := 42) (ji := 2) rfl fX5_53 q5_2 (fun _ => ⟨rfl, rfl⟩) rfl rfl (by omega) (by first | rfl | assumption) rfl ⟨_, _, rfl⟩ ?_
  refine wp_return (t := 43) rfl rfl ?_
  exact ⟨rfl, fun b hb => by rw [zu_ne hb, zu_ne hb, zu_ne hb], rfl⟩
