/-! the reference's own methods: undone, kept, kinds, counts, the best, costs -/
set_option maxHeartbeats 4000000 in
set_option maxRecDepth 100000 in
theorem c_X10_undo {G : zG} {d n : Nat} {I : zMem} {R : zRef} (hW : zWir n R) (hn : 143 ≤ n) (hu : 0 ≤ I 115 12 ∧ I 115 12 ≤ 8) : MT G mX10_undo d 0 0 [zR 115] n I R (zP1 (fun r I' R' => ((I 115 12 = 0 ∧ r = -2 ∧ I' = I) ∨ (1 ≤ I 115 12 ∧ r = I 115 12 - 1 ∧ I' 115 12 = I 115 12 - 1 ∧ (∀ j : Int, j ≠ 12 → I' 115 j = I 115 j) ∧ (∀ j : Int, 0 ≤ j → j < 18 → I' 122 j = I 123 (18 * (I 115 12 - 1) + j)) ∧ ∀ b : Nat, b ≠ 115 → b ≠ 122 → I' b = I b)) ∧ R' = R)) := by
  refine MT.of (by decide +kernel) tX10_undo_ok (Nat.le_of_ble_eq_true rfl) (fun hI0 => ?_)
  generalize hue : I 115 12 = u at *
  have key : ∀ (m : Nat) (k : Int) (J : zMem), 1 ≤ u → 0 ≤ k → k ≤ 18 → (18 - k).toNat = m → J 115 12 = u - 1 → (∀ j : Int, j ≠ 12 → J 115 j = I 115 j) → (∀ j : Int, 0 ≤ j → j < k → J 122 j = I 123 (18 * (u - 1) + j)) → (∀ b : Nat, b ≠ 115 → b ≠ 122 → J b = I b) →
      WP G mX10_undo d 0 0 0 0 22 [some (zR 115), some (zI k)] [] n J R (zP1 (fun r I' R' => ((u = 0 ∧ r = -2 ∧ I' = I) ∨ (1 ≤ u ∧ r = u - 1 ∧ I' 115 12 = u - 1 ∧ (∀ j : Int, j ≠ 12 → I' 115 j = I 115 j) ∧ (∀ j : Int, 0 ≤ j → j < 18 → I' 122 j = I 123 (18 * (u - 1) + j)) ∧ ∀ b : Nat, b ≠ 115 → b ≠ 122 → I' b = I b)) ∧ R' = R)) := by
    intro m
    induction m with
    | zero =>
      intro k J u1 k0 k1 km h1 h2 h3 h4
      refine wp_iload_n (t := 13) rfl rfl ?_
      refine wp_bipush (t := 14) rfl (by decide) ?_
      refine wp_icmp_ge (t := 15) (tgt := 54) rfl (by decide) (by first | assumption | exact hI0 _ _ | exact zin_and _ _ | (unfold zin; omega) | (unfold zin at *; omega)) (by first | assumption | exact hI0 _ _ | exact zin_and _ _ | (unfold zin; omega) | (unfold zin at *; omega)) (fun h25 => ?_) (fun h25 => ?_)
      · refine wp_aload_n (t := 31) rfl rfl ?_
        refine wp_getI (t := 32) (ji := 12) rfl fX10_188 rfl rfl (by omega) (by first | rfl | assumption) ?_
        rw [h1]
        refine wp_ireturn (t := 33) rfl rfl ?_
        exact ⟨_, rfl, Or.inr ⟨u1, rfl, h1, h2, fun j j0 j1 => h3 j j0 (by omega), h4⟩, rfl⟩
      · exact absurd h25 (by omega)
    | succ m ih =>
      intro k J u1 k0 k1 km h1 h2 h3 h4
      have e123 : J 123 = I 123 := h4 123 (by decide) (by decide)
      refine wp_canon (fun hI0 => ?_)
      refine wp_iload_n (t := 13) rfl rfl ?_
      refine wp_bipush (t := 14) rfl (by decide) ?_
      refine wp_icmp_ge (t := 15) (tgt := 54) rfl (by decide) (by first | assumption | exact hI0 _ _ | exact zin_and _ _ | (unfold zin; omega) | (unfold zin at *; omega)) (by first | assumption | exact hI0 _ _ | exact zin_and _ _ | (unfold zin; omega) | (unfold zin at *; omega)) (fun h25 => ?_) (fun h25 => ?_)
      · exact absurd h25 (by omega)
      · refine wp_aload_n (t := 16) rfl rfl ?_
        refine wp_getR (t := 17) (ji := 10) rfl fX10_28 rfl rfl (by omega) (by first | rfl | assumption) (by first | exact hW _ _ _ (by omega) rfl | assumption) ?_
        refine wp_iload_n (t := 18) rfl rfl ?_
        refine wp_aload_n (t := 19) rfl rfl ?_
        refine wp_getR (t := 20) (ji := 11) rfl fX10_31 rfl rfl (by omega) (by first | rfl | assumption) (by first | exact hW _ _ _ (by omega) rfl | assumption) ?_
        refine wp_bipush (t := 21) rfl (by decide) ?_
        refine wp_aload_n (t := 22) rfl rfl ?_
        refine wp_getI (t := 23) (ji := 12) rfl fX10_188 rfl rfl (by omega) (by first | rfl | assumption) ?_
        rw [h1]
        refine wp_imul (t := 24) rfl ?_
        refine wp_iload_n (t := 25) rfl rfl ?_
        refine wp_iadd (t := 26) rfl ?_
        refine wp_iaload (t := 27) rfl (by omega) (by first | rfl | assumption) (by omega) (by omega) (by omega) ?_
        rw [e123]
        refine wp_iastore (t := 28) rfl (by omega) (by first | rfl | assumption) (by omega) (by omega) (by omega) (by rw [← e123]; exact hI0 _ _) ?_
        refine wp_canon (fun hI1 => ?_)
        refine wp_iinc (t := 29) rfl rfl (by decide) rfl ?_
        refine wp_goto (t := 30) (tgt := 22) rfl (by decide) ?_
        refine ih (k + 1) _ u1 (by omega) (by omega) (by omega) (by rw [zu_ne (by decide)]; exact h1) (fun j hj => by rw [zu_ne (by decide)]; exact h2 j hj) (fun j j0 j1 => ?_) (fun b b1 b2 => by rw [zu_ne b2]; exact h4 b b1 b2)
        by_cases e : j = k
        · rw [e, zu_eq]
        · rw [zu_ni e]
          exact h3 j j0 (by omega)
  refine wp_ls (ls' := [some (zR 115), none]) rfl ?_
  refine wp_aload_n (t := 0) rfl rfl ?_
  refine wp_getI (t := 1) (ji := 12) rfl fX10_188 rfl rfl (by omega) (by first | rfl | assumption) ?_
  rw [hue]
  refine wp_if_ne (t := 2) (tgt := 10) rfl (by decide) (by first | assumption | exact hI0 _ _ | exact zin_and _ _ | (unfold zin; omega) | (unfold zin at *; omega)) (fun h4 => ?_) (fun h4 => ?_)
  · refine wp_aload_n (t := 5) rfl rfl ?_
    refine wp_dup (t := 6) rfl rfl ?_
    refine wp_getI (t := 7) (ji := 12) rfl fX10_188 rfl rfl (by omega) (by first | rfl | assumption) ?_
    rw [hue]
    refine wp_iconst (t := 8) rfl ?_
    refine wp_isub (t := 9) rfl ?_
    refine wp_putI (t := 10) (ji := 12) rfl fX10_188 p10_12 rfl rfl (by omega) (by first | rfl | assumption) (by first | assumption | exact hI0 _ _ | exact zin_and _ _ | (unfold zin; omega) | (unfold zin at *; omega)) ?_
    refine wp_canon (fun hI1 => ?_)
    refine wp_iconst (t := 11) rfl ?_
    refine wp_istore_n (t := 12) rfl (by decide) rfl ?_
    exact key _ 0 _ (by omega) (by omega) (by omega) rfl zu_eq (fun j hj => zu_ni hj) (fun j j0 j1 => absurd j1 (by omega)) (fun b b1 _ => zu_ne b1)
  · refine wp_bipush (t := 3) rfl (by decide) ?_
    refine wp_ireturn (t := 4) rfl rfl ?_
    exact ⟨_, rfl, Or.inl ⟨by omega, rfl, rfl⟩, rfl⟩
set_option maxHeartbeats 4000000 in
set_option maxRecDepth 100000 in
theorem c_X10_back {G : zG} {d n : Nat} {I : zMem} {R : zRef} (hW : zWir n R) (hn : 143 ≤ n) (hu : 0 ≤ I 115 16 ∧ I 115 16 ≤ 2) : MT G mX10_back d 0 0 [zR 115] n I R (zP1 (fun r I' R' => ((I 115 16 = 0 ∧ r = -2 ∧ I' = I) ∨ (1 ≤ I 115 16 ∧ r = I 115 16 - 1 ∧ I' 115 16 = I 115 16 - 1 ∧ I' 115 12 = 0 ∧ (∀ j : Int, j ≠ 16 → j ≠ 12 → I' 115 j = I 115 j) ∧ (∀ j : Int, 0 ≤ j → j < 18 → I' 122 j = I 125 (18 * (I 115 16 - 1) + j)) ∧ ∀ b : Nat, b ≠ 115 → b ≠ 122 → I' b = I b)) ∧ R' = R)) := by
  refine MT.of (by decide +kernel) tX10_back_ok (Nat.le_of_ble_eq_true rfl) (fun hI0 => ?_)
  generalize hue : I 115 16 = u at *
  have key : ∀ (m : Nat) (k : Int) (J : zMem), 1 ≤ u → 0 ≤ k → k ≤ 18 → (18 - k).toNat = m → J 115 16 = u - 1 → (∀ j : Int, j ≠ 16 → J 115 j = I 115 j) → (∀ j : Int, 0 ≤ j → j < k → J 122 j = I 125 (18 * (u - 1) + j)) → (∀ b : Nat, b ≠ 115 → b ≠ 122 → J b = I b) →
      WP G mX10_back d 0 0 0 0 22 [some (zR 115), some (zI k)] [] n J R (zP1 (fun r I' R' => ((u = 0 ∧ r = -2 ∧ I' = I) ∨ (1 ≤ u ∧ r = u - 1 ∧ I' 115 16 = u - 1 ∧ I' 115 12 = 0 ∧ (∀ j : Int, j ≠ 16 → j ≠ 12 → I' 115 j = I 115 j) ∧ (∀ j : Int, 0 ≤ j → j < 18 → I' 122 j = I 125 (18 * (u - 1) + j)) ∧ ∀ b : Nat, b ≠ 115 → b ≠ 122 → I' b = I b)) ∧ R' = R)) := by
    intro m
    induction m with
    | zero =>
      intro k J u1 k0 k1 km h1 h2 h3 h4
      refine wp_canon (fun hI0 => ?_)
      refine wp_iload_n (t := 13) rfl rfl ?_
      refine wp_bipush (t := 14) rfl (by decide) ?_
      refine wp_icmp_ge (t := 15) (tgt := 54) rfl (by decide) (by first | assumption | exact hI0 _ _ | exact zin_and _ _ | (unfold zin; omega) | (unfold zin at *; omega)) (by first | assumption | exact hI0 _ _ | exact zin_and _ _ | (unfold zin; omega) | (unfold zin at *; omega)) (fun h25 => ?_) (fun h25 => ?_)
      · refine wp_aload_n (t := 31) rfl rfl ?_
        refine wp_iconst (t := 32) rfl ?_
        refine wp_putI (t := 33) (ji := 12) rfl fX10_188 p10_12 rfl rfl (by omega) (by first | rfl | assumption) (by first | assumption | exact hI0 _ _ | exact zin_and _ _ | (unfold zin; omega) | (unfold zin at *; omega)) ?_
        refine wp_canon (fun hI1 => ?_)
        refine wp_aload_n (t := 34) rfl rfl ?_
        refine wp_getI (t := 35) (ji := 16) rfl fX10_194 rfl rfl (by omega) (by first | rfl | assumption) ?_
        rw [zu_ni (by decide), h1]
        refine wp_ireturn (t := 36) rfl rfl ?_
        exact ⟨_, rfl, Or.inr ⟨u1, rfl, by rw [zu_ni (by decide)]; exact h1, zu_eq, fun j j1 j2 => by rw [zu_ni j2]; exact h2 j j1, fun j j0 j1 => by rw [zu_ne (by decide)]; exact h3 j j0 (by omega), fun b b1 b2 => by rw [zu_ne b1]; exact h4 b b1 b2⟩, rfl⟩
      · exact absurd h25 (by omega)
    | succ m ih =>
      intro k J u1 k0 k1 km h1 h2 h3 h4
      have e125 : J 125 = I 125 := h4 125 (by decide) (by decide)
      refine wp_canon (fun hI0 => ?_)
      refine wp_iload_n (t := 13) rfl rfl ?_
      refine wp_bipush (t := 14) rfl (by decide) ?_
      refine wp_icmp_ge (t := 15) (tgt := 54) rfl (by decide) (by first | assumption | exact hI0 _ _ | exact zin_and _ _ | (unfold zin; omega) | (unfold zin at *; omega)) (by first | assumption | exact hI0 _ _ | exact zin_and _ _ | (unfold zin; omega) | (unfold zin at *; omega)) (fun h25 => ?_) (fun h25 => ?_)
      · exact absurd h25 (by omega)
      · refine wp_aload_n (t := 16) rfl rfl ?_
        refine wp_getR (t := 17) (ji := 10) rfl fX10_28 rfl rfl (by omega) (by first | rfl | assumption) (by first | exact hW _ _ _ (by omega) rfl | assumption) ?_
        refine wp_iload_n (t := 18) rfl rfl ?_
        refine wp_aload_n (t := 19) rfl rfl ?_
        refine wp_getR (t := 20) (ji := 15) rfl fX10_37 rfl rfl (by omega) (by first | rfl | assumption) (by first | exact hW _ _ _ (by omega) rfl | assumption) ?_
        refine wp_bipush (t := 21) rfl (by decide) ?_
        refine wp_aload_n (t := 22) rfl rfl ?_
        refine wp_getI (t := 23) (ji := 16) rfl fX10_194 rfl rfl (by omega) (by first | rfl | assumption) ?_
        rw [h1]
        refine wp_imul (t := 24) rfl ?_
        refine wp_iload_n (t := 25) rfl rfl ?_
        refine wp_iadd (t := 26) rfl ?_
        refine wp_iaload (t := 27) rfl (by omega) (by first | rfl | assumption) (by omega) (by omega) (by omega) ?_
        rw [e125]
        refine wp_iastore (t := 28) rfl (by omega) (by first | rfl | assumption) (by omega) (by omega) (by omega) (by rw [← e125]; exact hI0 _ _) ?_
        refine wp_canon (fun hI1 => ?_)
        refine wp_iinc (t := 29) rfl rfl (by decide) rfl ?_
        refine wp_goto (t := 30) (tgt := 22) rfl (by decide) ?_
        refine ih (k + 1) _ u1 (by omega) (by omega) (by omega) (by rw [zu_ne (by decide)]; exact h1) (fun j hj => by rw [zu_ne (by decide)]; exact h2 j hj) (fun j j0 j1 => ?_) (fun b b1 b2 => by rw [zu_ne b2]; exact h4 b b1 b2)
        by_cases e : j = k
        · rw [e, zu_eq]
        · rw [zu_ni e]
          exact h3 j j0 (by omega)
  refine wp_ls (ls' := [some (zR 115), none]) rfl ?_
  refine wp_aload_n (t := 0) rfl rfl ?_
  refine wp_getI (t := 1) (ji := 16) rfl fX10_194 rfl rfl (by omega) (by first | rfl | assumption) ?_
  rw [hue]
  refine wp_if_ne (t := 2) (tgt := 10) rfl (by decide) (by first | assumption | exact hI0 _ _ | exact zin_and _ _ | (unfold zin; omega) | (unfold zin at *; omega)) (fun h4 => ?_) (fun h4 => ?_)
  · refine wp_aload_n (t := 5) rfl rfl ?_
    refine wp_dup (t := 6) rfl rfl ?_
    refine wp_getI (t := 7) (ji := 16) rfl fX10_194 rfl rfl (by omega) (by first | rfl | assumption) ?_
    rw [hue]
    refine wp_iconst (t := 8) rfl ?_
    refine wp_isub (t := 9) rfl ?_
    refine wp_putI (t := 10) (ji := 16) rfl fX10_194 p10_16 rfl rfl (by omega) (by first | rfl | assumption) (by first | assumption | exact hI0 _ _ | exact zin_and _ _ | (unfold zin; omega) | (unfold zin at *; omega)) ?_
    refine wp_canon (fun hI1 => ?_)
    refine wp_iconst (t := 11) rfl ?_
    refine wp_istore_n (t := 12) rfl (by decide) rfl ?_
    exact key _ 0 _ (by omega) (by omega) (by omega) rfl zu_eq (fun j hj => zu_ni hj) (fun j j0 j1 => absurd j1 (by omega)) (fun b b1 _ => zu_ne b1)
  · refine wp_bipush (t := 3) rfl (by decide) ?_
    refine wp_ireturn (t := 4) rfl rfl ?_
    exact ⟨_, rfl, Or.inl ⟨by omega, rfl, rfl⟩, rfl⟩
set_option maxHeartbeats 4000000 in
set_option maxRecDepth 100000 in
theorem c_X10_keep {G : zG} {d n : Nat} {I : zMem} {R : zRef} (hW : zWir n R) (hn : 143 ≤ n) (hu : 0 ≤ I 115 16 ∧ I 115 16 ≤ 2) : MT G mX10_keep d 0 0 [zR 115] n I R (zP1 (fun r I' R' => ((I 115 16 = 2 ∧ r = -3 ∧ I' = I) ∨ (I 115 16 < 2 ∧ r = I 115 16 + 1 ∧ I' 115 16 = I 115 16 + 1 ∧ (∀ j : Int, j ≠ 16 → I' 115 j = I 115 j) ∧ (∀ j : Int, 0 ≤ j → j < 18 → I' 125 (18 * I 115 16 + j) = I 122 j) ∧ (∀ j : Int, j < 18 * I 115 16 → I' 125 j = I 125 j) ∧ ∀ b : Nat, b ≠ 115 → b ≠ 125 → I' b = I b)) ∧ R' = R)) := by
  refine MT.of (by decide +kernel) tX10_keep_ok (Nat.le_of_ble_eq_true rfl) (fun hI0 => ?_)
  generalize hue : I 115 16 = u at *
  have key : ∀ (m : Nat) (k : Int) (J : zMem), u < 2 → 0 ≤ k → k ≤ 18 → (18 - k).toNat = m → (∀ j : Int, 0 ≤ j → j < k → J 125 (18 * u + j) = I 122 j) → (∀ j : Int, j < 18 * u → J 125 j = I 125 j) → (∀ b : Nat, b ≠ 125 → J b = I b) →
      WP G mX10_keep d 0 0 0 0 13 [some (zR 115), some (zI k)] [] n J R (zP1 (fun r I' R' => ((u = 2 ∧ r = -3 ∧ I' = I) ∨ (u < 2 ∧ r = u + 1 ∧ I' 115 16 = u + 1 ∧ (∀ j : Int, j ≠ 16 → I' 115 j = I 115 j) ∧ (∀ j : Int, 0 ≤ j → j < 18 → I' 125 (18 * u + j) = I 122 j) ∧ (∀ j : Int, j < 18 * u → I' 125 j = I 125 j) ∧ ∀ b : Nat, b ≠ 115 → b ≠ 125 → I' b = I b)) ∧ R' = R)) := by
    intro m
    induction m with
    | zero =>
      intro k J u1 k0 k1 km h1 h2 h3
      have e115 : J 115 16 = u := by rw [h3 115 (by decide)]; exact hue
      refine wp_canon (fun hI0 => ?_)
      refine wp_iload_n (t := 8) rfl rfl ?_
      refine wp_bipush (t := 9) rfl (by decide) ?_
      refine wp_icmp_ge (t := 10) (tgt := 45) rfl (by decide) (by first | assumption | exact hI0 _ _ | exact zin_and _ _ | (unfold zin; omega) | (unfold zin at *; omega)) (by first | assumption | exact hI0 _ _ | exact zin_and _ _ | (unfold zin; omega) | (unfold zin at *; omega)) (fun h16 => ?_) (fun h16 => ?_)
      · refine wp_aload_n (t := 26) rfl rfl ?_
        refine wp_dup (t := 27) rfl rfl ?_
        refine wp_getI (t := 28) (ji := 16) rfl fX10_194 rfl rfl (by omega) (by first | rfl | assumption) ?_
        rw [e115]
        refine wp_iconst (t := 29) rfl ?_
        refine wp_iadd (t := 30) rfl ?_
        refine wp_putI (t := 31) (ji := 16) rfl fX10_194 p10_16 rfl rfl (by omega) (by first | rfl | assumption) (by first | assumption | exact hI0 _ _ | exact zin_and _ _ | (unfold zin; omega) | (unfold zin at *; omega)) ?_
        refine wp_canon (fun hI1 => ?_)
        refine wp_aload_n (t := 32) rfl rfl ?_
        refine wp_getI (t := 33) (ji := 16) rfl fX10_194 rfl rfl (by omega) (by first | rfl | assumption) ?_
        rw [zu_eq]
        refine wp_ireturn (t := 34) rfl rfl ?_
        exact ⟨_, rfl, Or.inr ⟨u1, rfl, zu_eq, fun j j1 => by rw [zu_ni j1, h3 115 (by decide)], fun j j0 j1 => by rw [zu_ne (by decide)]; exact h1 j j0 (by omega), fun j j1 => by rw [zu_ne (by decide)]; exact h2 j j1, fun b b1 b2 => by rw [zu_ne b1]; exact h3 b b2⟩, rfl⟩
      · exact absurd h16 (by omega)
    | succ m ih =>
      intro k J u1 k0 k1 km h1 h2 h3
      have e115 : J 115 16 = u := by rw [h3 115 (by decide)]; exact hue
      have e122 : J 122 = I 122 := h3 122 (by decide)
      refine wp_canon (fun hI0 => ?_)
      refine wp_iload_n (t := 8) rfl rfl ?_
      refine wp_bipush (t := 9) rfl (by decide) ?_
      refine wp_icmp_ge (t := 10) (tgt := 45) rfl (by decide) (by first | assumption | exact hI0 _ _ | exact zin_and _ _ | (unfold zin; omega) | (unfold zin at *; omega)) (by first | assumption | exact hI0 _ _ | exact zin_and _ _ | (unfold zin; omega) | (unfold zin at *; omega)) (fun h16 => ?_) (fun h16 => ?_)
      · exact absurd h16 (by omega)
      · refine wp_aload_n (t := 11) rfl rfl ?_
        refine wp_getR (t := 12) (ji := 15) rfl fX10_37 rfl rfl (by omega) (by first | rfl | assumption) (by first | exact hW _ _ _ (by omega) rfl | assumption) ?_
        refine wp_bipush (t := 13) rfl (by decide) ?_
        refine wp_aload_n (t := 14) rfl rfl ?_
        refine wp_getI (t := 15) (ji := 16) rfl fX10_194 rfl rfl (by omega) (by first | rfl | assumption) ?_
        rw [e115]
        refine wp_imul (t := 16) rfl ?_
        refine wp_iload_n (t := 17) rfl rfl ?_
        refine wp_iadd (t := 18) rfl ?_
        refine wp_aload_n (t := 19) rfl rfl ?_
        refine wp_getR (t := 20) (ji := 10) rfl fX10_28 rfl rfl (by omega) (by first | rfl | assumption) (by first | exact hW _ _ _ (by omega) rfl | assumption) ?_
        refine wp_iload_n (t := 21) rfl rfl ?_
        refine wp_iaload (t := 22) rfl (by omega) (by first | rfl | assumption) (by omega) (by omega) (by omega) ?_
        rw [e122]
        refine wp_iastore (t := 23) rfl (by omega) (by first | rfl | assumption) (by omega) (by omega) (by omega) (by rw [← e122]; exact hI0 _ _) ?_
        refine wp_canon (fun hI1 => ?_)
        refine wp_iinc (t := 24) rfl rfl (by decide) rfl ?_
        refine wp_goto (t := 25) (tgt := 13) rfl (by decide) ?_
        refine ih (k + 1) _ u1 (by omega) (by omega) (by omega) (fun j j0 j1 => ?_) (fun j j1 => by rw [zu_ni (by omega)]; exact h2 j j1) (fun b b1 => by rw [zu_ne b1]; exact h3 b b1)
        by_cases e : j = k
        · rw [e, zu_eq]
        · rw [zu_ni (by omega)]
          exact h1 j j0 (by omega)
  refine wp_ls (ls' := [some (zR 115), none]) rfl ?_
  refine wp_aload_n (t := 0) rfl rfl ?_
  refine wp_getI (t := 1) (ji := 16) rfl fX10_194 rfl rfl (by omega) (by first | rfl | assumption) ?_
  rw [hue]
  refine wp_iconst (t := 2) rfl ?_
  refine wp_icmp_ne (t := 3) (tgt := 11) rfl (by decide) (by first | assumption | exact hI0 _ _ | exact zin_and _ _ | (unfold zin; omega) | (unfold zin at *; omega)) (by first | assumption | exact hI0 _ _ | exact zin_and _ _ | (unfold zin; omega) | (unfold zin at *; omega)) (fun h5 => ?_) (fun h5 => ?_)
  · refine wp_iconst (t := 6) rfl ?_
    refine wp_istore_n (t := 7) rfl (by decide) rfl ?_
    exact key _ 0 I (by omega) (by omega) (by omega) rfl (fun j j0 j1 => absurd j1 (by omega)) (fun _ _ => rfl) (fun _ _ => rfl)
  · refine wp_bipush (t := 4) rfl (by decide) ?_
    refine wp_ireturn (t := 5) rfl rfl ?_
    exact ⟨_, rfl, Or.inl ⟨by omega, rfl, rfl⟩, rfl⟩
set_option maxHeartbeats 4000000 in
set_option maxRecDepth 100000 in
theorem c_X10_putMany {G : zG} {d n : Nat} {I : zMem} {R : zRef} (hW : zWir n R) (hn : 143 ≤ n) (hco : 0 ≤ I 115 2 ∧ I 115 2 ≤ 6) : MT G mX10_putMany (d + 1) 0 0 [zR 115] n I R (zP1 (fun r I' R' => r = zsum (fun c => if 0 < I 122 (6 + c) then 1 else 0) (I 115 2).toNat ∧ I' = I ∧ R' = R)) := by
  refine MT.of (by decide +kernel) tX10_putMany_ok (Nat.le_of_ble_eq_true rfl) (fun hI0 => ?_)
  have key : ∀ (m : Nat) (c s : Int), 0 ≤ c → c ≤ I 115 2 → (I 115 2 - c).toNat = m → s = zsum (fun c => if 0 < I 122 (6 + c) then 1 else 0) c.toNat → WP G mX10_putMany (d + 1) 0 0 0 0 4 [some (zR 115), some (zI s), some (zI c)] [] n I R (zP1 (fun r I' R' => r = zsum (fun c => if 0 < I 122 (6 + c) then 1 else 0) (I 115 2).toNat ∧ I' = I ∧ R' = R)) := by
    intro m
    induction m with
    | zero =>
      intro c s h0 h1 hm hs
      refine wp_iload_n (t := 4) rfl rfl ?_
      refine wp_aload_n (t := 5) rfl rfl ?_
      refine wp_getI (t := 6) (ji := 2) rfl fX10_115 rfl rfl (by omega) (by first | rfl | assumption) ?_
      refine wp_icmp_ge (t := 7) (tgt := 34) rfl (by decide) (by first | assumption | exact hI0 _ _ | exact zin_and _ _ | (unfold zin; omega) | (unfold zin at *; omega)) (by first | assumption | exact hI0 _ _ | exact zin_and _ _ | (unfold zin; omega) | (unfold zin at *; omega)) (fun h9 => ?_) (fun h9 => ?_)
      · refine wp_iload_n (t := 20) rfl rfl ?_
        refine wp_ireturn (t := 21) rfl rfl ?_
        exact ⟨_, rfl, by rw [hs, show c = I 115 2 by omega], rfl, rfl⟩
      · exact absurd h9 (by omega)
    | succ m ih =>
      intro c s h0 h1 hm hs
      refine wp_iload_n (t := 4) rfl rfl ?_
      refine wp_aload_n (t := 5) rfl rfl ?_
      refine wp_getI (t := 6) (ji := 2) rfl fX10_115 rfl rfl (by omega) (by first | rfl | assumption) ?_
      refine wp_icmp_ge (t := 7) (tgt := 34) rfl (by decide) (by first | assumption | exact hI0 _ _ | exact zin_and _ _ | (unfold zin; omega) | (unfold zin at *; omega)) (by first | assumption | exact hI0 _ _ | exact zin_and _ _ | (unfold zin; omega) | (unfold zin at *; omega)) (fun h9 => ?_) (fun h9 => ?_)
      · exact absurd h9 (by omega)
      · refine wp_iload_n (t := 8) rfl rfl ?_
        refine wp_aload_n (t := 9) rfl rfl ?_
        refine wp_iload_n (t := 10) rfl rfl ?_
        refine wp_vi (ci := 10) (c_X10_isPut (d := d) hW hn ⟨h0, by omega⟩) (t := 11) rfl kX10_215 rfl rfl (by omega) (by first | rfl | assumption) ⟨_, _, rfl⟩ (Nat.le_of_ble_eq_true rfl) ⟨Nat.le_refl _, Nat.le_refl _⟩ (fun r15 I15 R15 c15 => ?_)
        refine wp_canon (fun hI1 => ?_)
        obtain ⟨e15, zi15, zr15⟩ := c15
        have zi15 := zi15.symm
        subst zi15
        have zr15 := zr15.symm
        subst zr15
        have b15 : 0 ≤ r15 ∧ r15 ≤ 1 := by rw [e15]; split <;> omega
        have n15 : ¬ r15 = 0 → 0 < I 122 (6 + c) := fun h => by (rw [e15] at h; by_cases q : 0 < I 122 (6 + c); exact q; rw [if_neg q] at h; exact absurd rfl h)
        have m15 : r15 = 0 → ¬ (0 < I 122 (6 + c)) := fun h q => by (rw [e15, if_pos q] at h; exact absurd h (by decide))
        refine wp_if_eq (t := 12) (tgt := 25) rfl (by decide) (by first | assumption | exact hI1 _ _ | exact hI0 _ _ | exact zin_and _ _ | (unfold zin; omega) | (unfold zin at *; omega)) (fun h18 => ?_) (fun h18 => ?_)
        · refine wp_iconst (t := 15) rfl ?_
          refine wp_iadd (t := 16) rfl ?_
          refine wp_istore_n (t := 17) rfl (by decide) rfl ?_
          refine wp_iinc (t := 18) rfl rfl (by decide) rfl ?_
          refine wp_goto (t := 19) (tgt := 4) rfl (by decide) ?_
          refine ih (c + 1) _ (by omega) (by omega) (by omega) ?_
          rw [zsum_succ _ h0, if_neg (m15 h18), ← hs]
        · refine wp_iconst (t := 13) rfl ?_
          refine wp_goto (t := 14) (tgt := 26) rfl (by decide) ?_
          refine wp_iadd (t := 16) rfl ?_
          refine wp_istore_n (t := 17) rfl (by decide) rfl ?_
          refine wp_iinc (t := 18) rfl rfl (by decide) rfl ?_
          refine wp_goto (t := 19) (tgt := 4) rfl (by decide) ?_
          refine ih (c + 1) _ (by omega) (by omega) (by omega) ?_
          rw [zsum_succ _ h0, if_pos (n15 h18), ← hs]
  refine wp_ls (ls' := [some (zR 115), none, none]) rfl ?_
  refine wp_iconst (t := 0) rfl ?_
  refine wp_istore_n (t := 1) rfl (by decide) rfl ?_
  refine wp_iconst (t := 2) rfl ?_
  refine wp_istore_n (t := 3) rfl (by decide) rfl ?_
  exact key _ 0 0 (by omega) (by omega) rfl rfl
set_option maxHeartbeats 4000000 in
set_option maxRecDepth 100000 in
theorem c_X10_lengthNow {G : zG} {d n : Nat} {I : zMem} {R : zRef} (hW : zWir n R) (hn : 143 ≤ n) (hch : mCh I) (hpl : mPl I) : MT G mX10_lengthNow (d + 3) 0 0 [zR 115] n I R (zP1 (fun r I' R' => (mSt I I' ∧ mTaken I' ∧ r = sLen (mS I' (-4)) (I 115 2).toNat) ∧ R' = R)) := by
  refine MT.of (by decide +kernel) tX10_lengthNow_ok (Nat.le_of_ble_eq_true rfl) (fun hI0 => ?_)
  refine wp_ls (ls' := [some (zR 115)]) rfl ?_
  refine wp_aload_n (t := 0) rfl rfl ?_
  refine wp_vv (ci := 10) (c_X10_layTakes (d := d) hW hn hch) (t := 1) rfl kX10_209 rfl rfl (by omega) (by first | rfl | assumption) ⟨_, _, rfl⟩ (Nat.le_of_ble_eq_true rfl) ⟨Nat.le_refl _, Nat.le_refl _⟩ (fun I1 R1 c1 => ?_)
  refine wp_canon (fun hI1 => ?_)
  obtain ⟨⟨s1, t1⟩, zr1⟩ := c1
  have zr1 := zr1.symm
  subst zr1
  have hchJ := mSt_Ch s1 hch
  refine wp_aload_n (t := 2) rfl rfl ?_
  refine wp_vi (ci := 10) (c_X10_lengthOf (wo := -4) (d := d + 1) hW hn hchJ (mSt_Pl s1 hpl) (mTaken_Tk hchJ t1)) (t := 3) rfl kX10_261 rfl rfl (by omega) (by first | rfl | assumption) ⟨_, _, rfl⟩ (Nat.le_of_ble_eq_true rfl) ⟨Nat.le_refl _, Nat.le_refl _⟩ (fun r5 I5 R5 c5 => ?_)
  refine wp_canon (fun hI2 => ?_)
  obtain ⟨e5, b5, zi5, zr5⟩ := c5
  have zi5 := zi5.symm
  subst zi5
  have zr5 := zr5.symm
  subst zr5
  refine wp_ireturn (t := 4) rfl rfl ?_
  exact ⟨_, rfl, ⟨s1, t1, by rw [e5, s1 115 (by decide) (by decide) (by decide)]⟩, rfl⟩
def mCount (I : zMem) (wh r : Int) (I' : zMem) : Prop := (wh = 5 ∧ mSt I I' ∧ mTaken I' ∧ r = sLen (mS I' (-4)) (I 115 2).toNat) ∨ (¬ wh = 5 ∧ I' = I ∧ r = (if wh = 0 then I 115 2 else if wh = 1 then I 115 3 else if wh = 2 then I 115 0 else if wh = 3 then I 115 1 else if wh = 4 then zsum (fun c => if 0 < I 122 (6 + c) then 1 else 0) (I 115 2).toNat else if wh = 6 then I 115 14 else if wh = 7 then I 115 12 else if wh = 8 then I 115 16 else if wh = 9 then I 115 20 else -1))
set_option maxHeartbeats 4000000 in
set_option maxRecDepth 100000 in
theorem c_X10_count {G : zG} {d n : Nat} {I : zMem} {R : zRef} {wh : Int} (hW : zWir n R) (hn : 143 ≤ n) (hch : mCh I) (hpl : mPl I) (hwh : zin wh) : MT G mX10_count (d + 4) 0 0 [zR 115, zI wh] n I R (zP1 (fun r I' R' => mCount I wh r I' ∧ R' = R)) := by
  refine MT.of (by decide +kernel) tX10_count_ok (Nat.le_of_ble_eq_true rfl) (fun hI0 => ?_)
  have hco := hch.1
  refine wp_ls (ls' := [some (zR 115), some (zI wh)]) rfl ?_
  refine wp_iload_n (t := 0) rfl rfl ?_
  refine wp_top (fun y1 e1 => ?_)
  have z1 : zin y1 := (by first | assumption | exact hI0 _ _ | exact zin_and _ _ | (unfold zin; omega) | (unfold zin at *; omega) | (rw [e1]; first | exact hI0 _ _ | (unfold zin; omega)))
  rcases (show y1 = 0 ∨ y1 = 1 ∨ y1 = 2 ∨ y1 = 3 ∨ y1 = 4 ∨ y1 = 5 ∨ y1 = 6 ∨ y1 = 7 ∨ y1 = 8 ∨ y1 = 9 ∨ (y1 < 0 ∨ 9 < y1) by omega) with h1 | h1 | h1 | h1 | h1 | h1 | h1 | h1 | h1 | h1 | h1
  · refine wp_tin (0) (t := 1) (off := 55) (tgt := 56) rfl h1 z1 (by decide) (by decide) rfl (by decide) ?_
    refine wp_aload_n (t := 2) rfl rfl ?_
    refine wp_getI (t := 3) (ji := 2) rfl fX10_115 rfl rfl (by omega) (by first | rfl | assumption) ?_
    refine wp_ireturn (t := 4) rfl rfl ?_
    refine ⟨_, rfl, Or.inr ⟨by omega, rfl, ?_⟩, rfl⟩
    first
      | rw [if_pos (by omega)]
      | rw [if_neg (by omega), if_pos (by omega)]
      | rw [if_neg (by omega), if_neg (by omega), if_pos (by omega)]
      | rw [if_neg (by omega), if_neg (by omega), if_neg (by omega), if_pos (by omega)]
      | (rw [if_neg (by omega), if_neg (by omega), if_neg (by omega), if_neg (by omega), if_pos (by omega)]; exact e77)
      | rw [if_neg (by omega), if_neg (by omega), if_neg (by omega), if_neg (by omega), if_neg (by omega), if_pos (by omega)]
      | rw [if_neg (by omega), if_neg (by omega), if_neg (by omega), if_neg (by omega), if_neg (by omega), if_neg (by omega), if_pos (by omega)]
      | rw [if_neg (by omega), if_neg (by omega), if_neg (by omega), if_neg (by omega), if_neg (by omega), if_neg (by omega), if_neg (by omega), if_pos (by omega)]
      | rw [if_neg (by omega), if_neg (by omega), if_neg (by omega), if_neg (by omega), if_neg (by omega), if_neg (by omega), if_neg (by omega), if_neg (by omega), if_pos (by omega)]
      | rw [if_neg (by omega), if_neg (by omega), if_neg (by omega), if_neg (by omega), if_neg (by omega), if_neg (by omega), if_neg (by omega), if_neg (by omega), if_neg (by omega)]
  · refine wp_tin (1) (t := 1) (off := 60) (tgt := 61) rfl h1 z1 (by decide) (by decide) rfl (by decide) ?_
    refine wp_aload_n (t := 5) rfl rfl ?_
    refine wp_getI (t := 6) (ji := 3) rfl fX10_121 rfl rfl (by omega) (by first | rfl | assumption) ?_
    refine wp_ireturn (t := 7) rfl rfl ?_
    refine ⟨_, rfl, Or.inr ⟨by omega, rfl, ?_⟩, rfl⟩
    first
      | rw [if_pos (by omega)]
      | rw [if_neg (by omega), if_pos (by omega)]
      | rw [if_neg (by omega), if_neg (by omega), if_pos (by omega)]
      | rw [if_neg (by omega), if_neg (by omega), if_neg (by omega), if_pos (by omega)]
      | (rw [if_neg (by omega), if_neg (by omega), if_neg (by omega), if_neg (by omega), if_pos (by omega)]; exact e77)
      | rw [if_neg (by omega), if_neg (by omega), if_neg (by omega), if_neg (by omega), if_neg (by omega), if_pos (by omega)]
      | rw [if_neg (by omega), if_neg (by omega), if_neg (by omega), if_neg (by omega), if_neg (by omega), if_neg (by omega), if_pos (by omega)]
      | rw [if_neg (by omega), if_neg (by omega), if_neg (by omega), if_neg (by omega), if_neg (by omega), if_neg (by omega), if_neg (by omega), if_pos (by omega)]
      | rw [if_neg (by omega), if_neg (by omega), if_neg (by omega), if_neg (by omega), if_neg (by omega), if_neg (by omega), if_neg (by omega), if_neg (by omega), if_pos (by omega)]
      | rw [if_neg (by omega), if_neg (by omega), if_neg (by omega), if_neg (by omega), if_neg (by omega), if_neg (by omega), if_neg (by omega), if_neg (by omega), if_neg (by omega)]
  · refine wp_tin (2) (t := 1) (off := 65) (tgt := 66) rfl h1 z1 (by decide) (by decide) rfl (by decide) ?_
    refine wp_aload_n (t := 8) rfl rfl ?_
    refine wp_getI (t := 9) (ji := 0) rfl fX10_91 rfl rfl (by omega) (by first | rfl | assumption) ?_
    refine wp_ireturn (t := 10) rfl rfl ?_
    refine ⟨_, rfl, Or.inr ⟨by omega, rfl, ?_⟩, rfl⟩
    first
      | rw [if_pos (by omega)]
      | rw [if_neg (by omega), if_pos (by omega)]
      | rw [if_neg (by omega), if_neg (by omega), if_pos (by omega)]
      | rw [if_neg (by omega), if_neg (by omega), if_neg (by omega), if_pos (by omega)]
      | (rw [if_neg (by omega), if_neg (by omega), if_neg (by omega), if_neg (by omega), if_pos (by omega)]; exact e77)
      | rw [if_neg (by omega), if_neg (by omega), if_neg (by omega), if_neg (by omega), if_neg (by omega), if_pos (by omega)]
      | rw [if_neg (by omega), if_neg (by omega), if_neg (by omega), if_neg (by omega), if_neg (by omega), if_neg (by omega), if_pos (by omega)]
      | rw [if_neg (by omega), if_neg (by omega), if_neg (by omega), if_neg (by omega), if_neg (by omega), if_neg (by omega), if_neg (by omega), if_pos (by omega)]
      | rw [if_neg (by omega), if_neg (by omega), if_neg (by omega), if_neg (by omega), if_neg (by omega), if_neg (by omega), if_neg (by omega), if_neg (by omega), if_pos (by omega)]
      | rw [if_neg (by omega), if_neg (by omega), if_neg (by omega), if_neg (by omega), if_neg (by omega), if_neg (by omega), if_neg (by omega), if_neg (by omega), if_neg (by omega)]
  · refine wp_tin (3) (t := 1) (off := 70) (tgt := 71) rfl h1 z1 (by decide) (by decide) rfl (by decide) ?_
    refine wp_aload_n (t := 11) rfl rfl ?_
    refine wp_getI (t := 12) (ji := 1) rfl fX10_95 rfl rfl (by omega) (by first | rfl | assumption) ?_
    refine wp_ireturn (t := 13) rfl rfl ?_
    refine ⟨_, rfl, Or.inr ⟨by omega, rfl, ?_⟩, rfl⟩
    first
      | rw [if_pos (by omega)]
      | rw [if_neg (by omega), if_pos (by omega)]
      | rw [if_neg (by omega), if_neg (by omega), if_pos (by omega)]
      | rw [if_neg (by omega), if_neg (by omega), if_neg (by omega), if_pos (by omega)]
      | (rw [if_neg (by omega), if_neg (by omega), if_neg (by omega), if_neg (by omega), if_pos (by omega)]; exact e77)
      | rw [if_neg (by omega), if_neg (by omega), if_neg (by omega), if_neg (by omega), if_neg (by omega), if_pos (by omega)]
      | rw [if_neg (by omega), if_neg (by omega), if_neg (by omega), if_neg (by omega), if_neg (by omega), if_neg (by omega), if_pos (by omega)]
      | rw [if_neg (by omega), if_neg (by omega), if_neg (by omega), if_neg (by omega), if_neg (by omega), if_neg (by omega), if_neg (by omega), if_pos (by omega)]
      | rw [if_neg (by omega), if_neg (by omega), if_neg (by omega), if_neg (by omega), if_neg (by omega), if_neg (by omega), if_neg (by omega), if_neg (by omega), if_pos (by omega)]
      | rw [if_neg (by omega), if_neg (by omega), if_neg (by omega), if_neg (by omega), if_neg (by omega), if_neg (by omega), if_neg (by omega), if_neg (by omega), if_neg (by omega)]
  · refine wp_tin (4) (t := 1) (off := 75) (tgt := 76) rfl h1 z1 (by decide) (by decide) rfl (by decide) ?_
    refine wp_aload_n (t := 14) rfl rfl ?_
    refine wp_vi (ci := 10) (c_X10_putMany (d := d + 2) hW hn ⟨by omega, by omega⟩) (t := 15) rfl kX10_314 rfl rfl (by omega) (by first | rfl | assumption) ⟨_, _, rfl⟩ (Nat.le_of_ble_eq_true rfl) ⟨Nat.le_refl _, Nat.le_refl _⟩ (fun r77 I77 R77 c77 => ?_)
    refine wp_canon (fun hI1 => ?_)
    obtain ⟨e77, zi77, zr77⟩ := c77
    have zi77 := zi77.symm
    subst zi77
    have zr77 := zr77.symm
    subst zr77
    refine wp_ireturn (t := 16) rfl rfl ?_
    refine ⟨_, rfl, Or.inr ⟨by omega, rfl, ?_⟩, rfl⟩
    first
      | rw [if_pos (by omega)]
      | rw [if_neg (by omega), if_pos (by omega)]
      | rw [if_neg (by omega), if_neg (by omega), if_pos (by omega)]
      | rw [if_neg (by omega), if_neg (by omega), if_neg (by omega), if_pos (by omega)]
      | (rw [if_neg (by omega), if_neg (by omega), if_neg (by omega), if_neg (by omega), if_pos (by omega)]; exact e77)
      | rw [if_neg (by omega), if_neg (by omega), if_neg (by omega), if_neg (by omega), if_neg (by omega), if_pos (by omega)]
      | rw [if_neg (by omega), if_neg (by omega), if_neg (by omega), if_neg (by omega), if_neg (by omega), if_neg (by omega), if_pos (by omega)]
      | rw [if_neg (by omega), if_neg (by omega), if_neg (by omega), if_neg (by omega), if_neg (by omega), if_neg (by omega), if_neg (by omega), if_pos (by omega)]
      | rw [if_neg (by omega), if_neg (by omega), if_neg (by omega), if_neg (by omega), if_neg (by omega), if_neg (by omega), if_neg (by omega), if_neg (by omega), if_pos (by omega)]
      | rw [if_neg (by omega), if_neg (by omega), if_neg (by omega), if_neg (by omega), if_neg (by omega), if_neg (by omega), if_neg (by omega), if_neg (by omega), if_neg (by omega)]
  · refine wp_tin (5) (t := 1) (off := 80) (tgt := 81) rfl h1 z1 (by decide) (by decide) rfl (by decide) ?_
    refine wp_aload_n (t := 17) rfl rfl ?_
    refine wp_vi (ci := 10) (c_X10_lengthNow (d := d) hW hn hch hpl) (t := 18) rfl kX10_317 rfl rfl (by omega) (by first | rfl | assumption) ⟨_, _, rfl⟩ (Nat.le_of_ble_eq_true rfl) ⟨Nat.le_refl _, Nat.le_refl _⟩ (fun r82 I82 R82 c82 => ?_)
    refine wp_canon (fun hI1 => ?_)
    obtain ⟨c82, zr82⟩ := c82
    have zr82 := zr82.symm
    subst zr82
    refine wp_ireturn (t := 19) rfl rfl ?_
    exact ⟨_, rfl, Or.inl ⟨by omega, c82⟩, rfl⟩
  · refine wp_tin (6) (t := 1) (off := 85) (tgt := 86) rfl h1 z1 (by decide) (by decide) rfl (by decide) ?_
    refine wp_aload_n (t := 20) rfl rfl ?_
    refine wp_getI (t := 21) (ji := 14) rfl fX10_191 rfl rfl (by omega) (by first | rfl | assumption) ?_
    refine wp_ireturn (t := 22) rfl rfl ?_
    refine ⟨_, rfl, Or.inr ⟨by omega, rfl, ?_⟩, rfl⟩
    first
      | rw [if_pos (by omega)]
      | rw [if_neg (by omega), if_pos (by omega)]
      | rw [if_neg (by omega), if_neg (by omega), if_pos (by omega)]
      | rw [if_neg (by omega), if_neg (by omega), if_neg (by omega), if_pos (by omega)]
      | (rw [if_neg (by omega), if_neg (by omega), if_neg (by omega), if_neg (by omega), if_pos (by omega)]; exact e77)
      | rw [if_neg (by omega), if_neg (by omega), if_neg (by omega), if_neg (by omega), if_neg (by omega), if_pos (by omega)]
      | rw [if_neg (by omega), if_neg (by omega), if_neg (by omega), if_neg (by omega), if_neg (by omega), if_neg (by omega), if_pos (by omega)]
      | rw [if_neg (by omega), if_neg (by omega), if_neg (by omega), if_neg (by omega), if_neg (by omega), if_neg (by omega), if_neg (by omega), if_pos (by omega)]
      | rw [if_neg (by omega), if_neg (by omega), if_neg (by omega), if_neg (by omega), if_neg (by omega), if_neg (by omega), if_neg (by omega), if_neg (by omega), if_pos (by omega)]
      | rw [if_neg (by omega), if_neg (by omega), if_neg (by omega), if_neg (by omega), if_neg (by omega), if_neg (by omega), if_neg (by omega), if_neg (by omega), if_neg (by omega)]
  · refine wp_tin (7) (t := 1) (off := 90) (tgt := 91) rfl h1 z1 (by decide) (by decide) rfl (by decide) ?_
    refine wp_aload_n (t := 23) rfl rfl ?_
    refine wp_getI (t := 24) (ji := 12) rfl fX10_188 rfl rfl (by omega) (by first | rfl | assumption) ?_
    refine wp_ireturn (t := 25) rfl rfl ?_
    refine ⟨_, rfl, Or.inr ⟨by omega, rfl, ?_⟩, rfl⟩
    first
      | rw [if_pos (by omega)]
      | rw [if_neg (by omega), if_pos (by omega)]
      | rw [if_neg (by omega), if_neg (by omega), if_pos (by omega)]
      | rw [if_neg (by omega), if_neg (by omega), if_neg (by omega), if_pos (by omega)]
      | (rw [if_neg (by omega), if_neg (by omega), if_neg (by omega), if_neg (by omega), if_pos (by omega)]; exact e77)
      | rw [if_neg (by omega), if_neg (by omega), if_neg (by omega), if_neg (by omega), if_neg (by omega), if_pos (by omega)]
      | rw [if_neg (by omega), if_neg (by omega), if_neg (by omega), if_neg (by omega), if_neg (by omega), if_neg (by omega), if_pos (by omega)]
      | rw [if_neg (by omega), if_neg (by omega), if_neg (by omega), if_neg (by omega), if_neg (by omega), if_neg (by omega), if_neg (by omega), if_pos (by omega)]
      | rw [if_neg (by omega), if_neg (by omega), if_neg (by omega), if_neg (by omega), if_neg (by omega), if_neg (by omega), if_neg (by omega), if_neg (by omega), if_pos (by omega)]
      | rw [if_neg (by omega), if_neg (by omega), if_neg (by omega), if_neg (by omega), if_neg (by omega), if_neg (by omega), if_neg (by omega), if_neg (by omega), if_neg (by omega)]
  · refine wp_tin (8) (t := 1) (off := 95) (tgt := 96) rfl h1 z1 (by decide) (by decide) rfl (by decide) ?_
    refine wp_aload_n (t := 26) rfl rfl ?_
    refine wp_getI (t := 27) (ji := 16) rfl fX10_194 rfl rfl (by omega) (by first | rfl | assumption) ?_
    refine wp_ireturn (t := 28) rfl rfl ?_
    refine ⟨_, rfl, Or.inr ⟨by omega, rfl, ?_⟩, rfl⟩
    first
      | rw [if_pos (by omega)]
      | rw [if_neg (by omega), if_pos (by omega)]
      | rw [if_neg (by omega), if_neg (by omega), if_pos (by omega)]
      | rw [if_neg (by omega), if_neg (by omega), if_neg (by omega), if_pos (by omega)]
      | (rw [if_neg (by omega), if_neg (by omega), if_neg (by omega), if_neg (by omega), if_pos (by omega)]; exact e77)
      | rw [if_neg (by omega), if_neg (by omega), if_neg (by omega), if_neg (by omega), if_neg (by omega), if_pos (by omega)]
      | rw [if_neg (by omega), if_neg (by omega), if_neg (by omega), if_neg (by omega), if_neg (by omega), if_neg (by omega), if_pos (by omega)]
      | rw [if_neg (by omega), if_neg (by omega), if_neg (by omega), if_neg (by omega), if_neg (by omega), if_neg (by omega), if_neg (by omega), if_pos (by omega)]
      | rw [if_neg (by omega), if_neg (by omega), if_neg (by omega), if_neg (by omega), if_neg (by omega), if_neg (by omega), if_neg (by omega), if_neg (by omega), if_pos (by omega)]
      | rw [if_neg (by omega), if_neg (by omega), if_neg (by omega), if_neg (by omega), if_neg (by omega), if_neg (by omega), if_neg (by omega), if_neg (by omega), if_neg (by omega)]
  · refine wp_tin (9) (t := 1) (off := 100) (tgt := 101) rfl h1 z1 (by decide) (by decide) rfl (by decide) ?_
    refine wp_aload_n (t := 29) rfl rfl ?_
    refine wp_getI (t := 30) (ji := 20) rfl fX10_134 rfl rfl (by omega) (by first | rfl | assumption) ?_
    refine wp_ireturn (t := 31) rfl rfl ?_
    refine ⟨_, rfl, Or.inr ⟨by omega, rfl, ?_⟩, rfl⟩
    first
      | rw [if_pos (by omega)]
      | rw [if_neg (by omega), if_pos (by omega)]
      | rw [if_neg (by omega), if_neg (by omega), if_pos (by omega)]
      | rw [if_neg (by omega), if_neg (by omega), if_neg (by omega), if_pos (by omega)]
      | (rw [if_neg (by omega), if_neg (by omega), if_neg (by omega), if_neg (by omega), if_pos (by omega)]; exact e77)
      | rw [if_neg (by omega), if_neg (by omega), if_neg (by omega), if_neg (by omega), if_neg (by omega), if_pos (by omega)]
      | rw [if_neg (by omega), if_neg (by omega), if_neg (by omega), if_neg (by omega), if_neg (by omega), if_neg (by omega), if_pos (by omega)]
      | rw [if_neg (by omega), if_neg (by omega), if_neg (by omega), if_neg (by omega), if_neg (by omega), if_neg (by omega), if_neg (by omega), if_pos (by omega)]
      | rw [if_neg (by omega), if_neg (by omega), if_neg (by omega), if_neg (by omega), if_neg (by omega), if_neg (by omega), if_neg (by omega), if_neg (by omega), if_pos (by omega)]
      | rw [if_neg (by omega), if_neg (by omega), if_neg (by omega), if_neg (by omega), if_neg (by omega), if_neg (by omega), if_neg (by omega), if_neg (by omega), if_neg (by omega)]
  · refine wp_tout (t := 1) (tgt := 106) rfl z1 h1 (by decide) ?_
    refine wp_iconst (t := 32) rfl ?_
    refine wp_ireturn (t := 33) rfl rfl ?_
    refine ⟨_, rfl, Or.inr ⟨by omega, rfl, ?_⟩, rfl⟩
    first
      | rw [if_pos (by omega)]
      | rw [if_neg (by omega), if_pos (by omega)]
      | rw [if_neg (by omega), if_neg (by omega), if_pos (by omega)]
      | rw [if_neg (by omega), if_neg (by omega), if_neg (by omega), if_pos (by omega)]
      | (rw [if_neg (by omega), if_neg (by omega), if_neg (by omega), if_neg (by omega), if_pos (by omega)]; exact e77)
      | rw [if_neg (by omega), if_neg (by omega), if_neg (by omega), if_neg (by omega), if_neg (by omega), if_pos (by omega)]
      | rw [if_neg (by omega), if_neg (by omega), if_neg (by omega), if_neg (by omega), if_neg (by omega), if_neg (by omega), if_pos (by omega)]
      | rw [if_neg (by omega), if_neg (by omega), if_neg (by omega), if_neg (by omega), if_neg (by omega), if_neg (by omega), if_neg (by omega), if_pos (by omega)]
      | rw [if_neg (by omega), if_neg (by omega), if_neg (by omega), if_neg (by omega), if_neg (by omega), if_neg (by omega), if_neg (by omega), if_neg (by omega), if_pos (by omega)]
      | rw [if_neg (by omega), if_neg (by omega), if_neg (by omega), if_neg (by omega), if_neg (by omega), if_neg (by omega), if_neg (by omega), if_neg (by omega), if_neg (by omega)]
/-- a sighting against kind k -/
def mmis (I : zMem) (c k : Int) : Int := zfirst (fun i => decide (I 124 (3 * i) = c) && decide (¬ mTo I k c (I 124 (3 * i + 1)) = I 124 (3 * i + 2))) (I 115 14).toNat
def mSeOk (I : zMem) : Prop := (0 ≤ I 115 14 ∧ I 115 14 ≤ 6) ∧ ∀ i : Int, 0 ≤ i → i < I 115 14 → 1 ≤ I 124 (3 * i + 1) ∧ I 124 (3 * i + 1) ≤ 8
theorem zkb_b (P : Int → Bool) : ∀ n : Nat, n ≤ 4 → 0 ≤ zkb P n ∧ zkb P n < 512 := by
  intro n
  induction n with
  | zero => exact fun _ => ⟨Int.le_refl _, by show (0 : Int) < 512; decide⟩
  | succ n ih =>
    intro hn
    have i := ih (by omega)
    have hs := zkb_succ P (k := (n : Int)) (by omega)
    rw [show ((n : Int) + 1).toNat = n + 1 by omega, show ((n : Int)).toNat = n by omega] at hs
    rw [hs]
    split
    · exact zior_b i ⟨by omega, by omega⟩
    · exact i
set_option maxHeartbeats 4000000 in
set_option maxRecDepth 100000 in
theorem c_X10_kinds {G : zG} {d n : Nat} {I : zMem} {R : zRef} {c : Int} (hW : zWir n R) (hn : 143 ≤ n) (hch : mCh I) (hse : mSeOk I) (hc : zin c) : MT G mX10_kinds (d + 2) 0 0 [zR 115, zI c] n I R (zP1 (fun r I' R' => (r = (if ¬ (0 ≤ c ∧ c < I 115 2) then -1 else zkb (fun k => decide (mmis I c k = -4)) 4) ∧ mSw I I') ∧ R' = R)) := by
  refine MT.of (by decide +kernel) tX10_kinds_ok (Nat.le_of_ble_eq_true rfl) (fun hI0 => ?_)
  have hco := hch.1
  obtain ⟨hs0, hs1⟩ := hse
  have loop : (0 ≤ c ∧ c < I 115 2) → ∀ (m : Nat) (k : Int) (J : zMem) (x4 x5 : Option zV), 0 ≤ k → k ≤ 4 → (4 - k).toNat = m → mSw I J →
      WP G mX10_kinds (d + 2) 0 0 0 0 14 [some (zR 115), some (zI c), some (zI (zkb (fun k => decide (mmis I c k = -4)) k.toNat)), some (zI k), x4, x5] [] n J R (zP1 (fun r I' R' => (r = (if ¬ (0 ≤ c ∧ c < I 115 2) then -1 else zkb (fun k => decide (mmis I c k = -4)) 4) ∧ mSw I I') ∧ R' = R)) := by
    intro cc m
    induction m with
    | zero =>
      intro k J x4 x5 k0 k1 km sm
      have zb := zkb_b (fun k => decide (mmis I c k = -4)) k.toNat (by omega)
      refine wp_iload_n (t := 10) rfl rfl ?_
      refine wp_iconst (t := 11) rfl ?_
      refine wp_icmp_ge (t := 12) (tgt := 117) rfl (by decide) (by first | assumption | exact hI0 _ _ | exact zin_and _ _ | (unfold zin; omega) | (unfold zin at *; omega)) (by first | assumption | exact hI0 _ _ | exact zin_and _ _ | (unfold zin; omega) | (unfold zin at *; omega)) (fun h16 => ?_) (fun h16 => ?_)
      · refine wp_iload_n (t := 70) rfl rfl ?_
        refine wp_ireturn (t := 71) rfl rfl ?_
        exact ⟨_, rfl, ⟨by rw [if_neg (fun q => q cc), show k.toNat = 4 by omega], sm⟩, rfl⟩
      · exact absurd h16 (by omega)
    | succ m ih =>
      intro k J x4 x5 k0 k1 km sm
      have zb := zkb_b (fun k => decide (mmis I c k = -4)) k.toNat (by omega)
      have zs := zkb_succ (fun k => decide (mmis I c k = -4)) k0
      have inner : ∀ (q : Nat) (i is : Int) (J : zMem), 0 ≤ i → i ≤ I 115 14 → (I 115 14 - i).toNat = q → mSw I J → (is = 0 ∨ is = 1) → (is = 1 ↔ ∀ a : Int, 0 ≤ a → a < i → (decide (I 124 (3 * a) = c) && decide (¬ mTo I k c (I 124 (3 * a + 1)) = I 124 (3 * a + 2))) = false) →
          WP G mX10_kinds (d + 2) 0 0 0 0 25 [some (zR 115), some (zI c), some (zI (zkb (fun k => decide (mmis I c k = -4)) k.toNat)), some (zI k), some (zI is), some (zI i)] [] n J R (zP1 (fun r I' R' => (r = (if ¬ (0 ≤ c ∧ c < I 115 2) then -1 else zkb (fun k => decide (mmis I c k = -4)) 4) ∧ mSw I I') ∧ R' = R)) := by
        intro q
        induction q with
        | zero =>
          intro i is J i0 i1 im sm h01 his
          have e115 : J 115 = I 115 := sm 115 (by decide) (by decide)
          have z0 := zior_zero zb
          have agree : is = 1 ↔ mmis I c k = -4 := by
            rw [his]
            constructor
            · intro h
              exact zfirst_none (fun a a0 a1 => h a a0 (by omega))
            · intro h a a0 a1
              rcases zfirst_spec (fun i => decide (I 124 (3 * i) = c) && decide (¬ mTo I k c (I 124 (3 * i + 1)) = I 124 (3 * i + 2))) (I 115 14).toNat with ⟨-, g⟩ | ⟨g, -⟩
              · exact g a a0 (by omega)
              · unfold mmis at h
                omega
          refine wp_canon (fun hI0 => ?_)
          refine wp_iload (t := 17) rfl rfl ?_
          refine wp_aload_n (t := 18) rfl rfl ?_
          refine wp_getI (t := 19) (ji := 14) rfl fX10_191 rfl rfl (by omega) (by first | rfl | assumption) ?_
          rw [e115]
          refine wp_icmp_ge (t := 20) (tgt := 96) rfl (by decide) (by first | assumption | exact hI0 _ _ | exact zin_and _ _ | (unfold zin; omega) | (unfold zin at *; omega)) (by first | assumption | exact hI0 _ _ | exact zin_and _ _ | (unfold zin; omega) | (unfold zin at *; omega)) (fun h31 => ?_) (fun h31 => ?_)
          · refine wp_iload_n (t := 58) rfl rfl ?_
            refine wp_iload (t := 59) rfl rfl ?_
            refine wp_if_eq (t := 60) (tgt := 108) rfl (by decide) (by first | assumption | exact hI0 _ _ | exact zin_and _ _ | (unfold zin; omega) | (unfold zin at *; omega)) (fun h99 => ?_) (fun h99 => ?_)
            · refine wp_iconst (t := 65) rfl ?_
              refine wp_ior (t := 66) rfl ?_
              refine wp_istore_n (t := 67) rfl (by decide) rfl ?_
              refine wp_iinc (t := 68) rfl rfl (by decide) rfl ?_
              refine wp_goto (t := 69) (tgt := 14) rfl (by decide) ?_
              rw [z0]
              have hh := ih (k + 1) J (some (zI is)) (some (zI i)) (by omega) (by omega) (by omega) sm
              rw [zs, if_neg (show ¬ decide (mmis I c k = -4) = true from fun q => by have := agree.mpr (of_decide_eq_true q); omega)] at hh
              exact hh
            · refine wp_iconst (t := 61) rfl ?_
              refine wp_iload_n (t := 62) rfl rfl ?_
              refine wp_ishl (t := 63) rfl ?_
              refine wp_goto (t := 64) (tgt := 109) rfl (by decide) ?_
              refine wp_ior (t := 66) rfl ?_
              refine wp_istore_n (t := 67) rfl (by decide) rfl ?_
              refine wp_iinc (t := 68) rfl rfl (by decide) rfl ?_
              refine wp_goto (t := 69) (tgt := 14) rfl (by decide) ?_
              have hh := ih (k + 1) J (some (zI is)) (some (zI i)) (by omega) (by omega) (by omega) sm
              rw [zs, if_pos (show decide (mmis I c k = -4) = true from decide_eq_true (agree.mp (by omega)))] at hh
              exact hh
          · exact absurd h31 (by omega)
        | succ q ihq =>
          intro i is J i0 i1 im sm h01 his
          have e115 : J 115 = I 115 := sm 115 (by decide) (by decide)
          have e124 : J 124 = I 124 := sm 124 (by decide) (by decide)
          have e116 : J 116 = I 116 := sm 116 (by decide) (by decide)
          have e118 : J 118 = I 118 := sm 118 (by decide) (by decide)
          have e119 : J 119 = I 119 := sm 119 (by decide) (by decide)
          have wi := hs1 i i0 (by omega)
          have hcc := hch.2.2.2.2 c cc.1 cc.2
          have step : ∀ (is' : Int), (is' = 1 ↔ is = 1 ∧ (decide (I 124 (3 * i) = c) && decide (¬ mTo I k c (I 124 (3 * i + 1)) = I 124 (3 * i + 2))) = false) → (is' = 1 ↔ ∀ a : Int, 0 ≤ a → a < i + 1 → (decide (I 124 (3 * a) = c) && decide (¬ mTo I k c (I 124 (3 * a + 1)) = I 124 (3 * a + 2))) = false) := fun is' h => by
            rw [h, his]
            constructor
            · rintro ⟨p1, p2⟩ a a0 a1
              by_cases e : a = i
              · rw [e]
                exact p2
              · exact p1 a a0 (by omega)
            · intro p
              exact ⟨fun a a0 a1 => p a a0 (by omega), p i i0 (by omega)⟩
          refine wp_canon (fun hI0 => ?_)
          refine wp_iload (t := 17) rfl rfl ?_
          refine wp_aload_n (t := 18) rfl rfl ?_
          refine wp_getI (t := 19) (ji := 14) rfl fX10_191 rfl rfl (by omega) (by first | rfl | assumption) ?_
          rw [e115]
          refine wp_icmp_ge (t := 20) (tgt := 96) rfl (by decide) (by first | assumption | exact hI0 _ _ | exact zin_and _ _ | (unfold zin; omega) | (unfold zin at *; omega)) (by first | assumption | exact hI0 _ _ | exact zin_and _ _ | (unfold zin; omega) | (unfold zin at *; omega)) (fun h31 => ?_) (fun h31 => ?_)
          · exact absurd h31 (by omega)
          · refine wp_iload (t := 21) rfl rfl ?_
            refine wp_if_eq (t := 22) (tgt := 87) rfl (by decide) (by first | assumption | exact hI0 _ _ | exact zin_and _ _ | (unfold zin; omega) | (unfold zin at *; omega)) (fun h36 => ?_) (fun h36 => ?_)
            · refine wp_iconst (t := 54) rfl ?_
              refine wp_istore (t := 55) rfl (by decide) rfl ?_
              refine wp_iinc (t := 56) rfl rfl (by decide) rfl ?_
              refine wp_goto (t := 57) (tgt := 25) rfl (by decide) ?_
              exact ihq (i + 1) 0 J (by omega) (by omega) (by omega) sm (Or.inl rfl) (step 0 ⟨fun q => by omega, fun q => by omega⟩)
            · refine wp_aload_n (t := 23) rfl rfl ?_
              refine wp_getR (t := 24) (ji := 13) rfl fX10_34 rfl rfl (by omega) (by first | rfl | assumption) (by first | exact hW _ _ _ (by omega) rfl | assumption) ?_
              refine wp_iconst (t := 25) rfl ?_
              refine wp_iload (t := 26) rfl rfl ?_
              refine wp_imul (t := 27) rfl ?_
              refine wp_iaload (t := 28) rfl (by omega) (by first | rfl | assumption) (by omega) (by omega) (by omega) ?_
              rw [e124]
              refine wp_iload_n (t := 29) rfl rfl ?_
              refine wp_icmp_ne (t := 30) (tgt := 83) rfl (by decide) (by rw [← e124]; exact hI0 _ _) (by first | assumption | exact hI0 _ _ | exact zin_and _ _ | (unfold zin; omega) | (unfold zin at *; omega)) (fun h49 => ?_) (fun h49 => ?_)
              · refine wp_iconst (t := 52) rfl ?_
                refine wp_goto (t := 53) (tgt := 88) rfl (by decide) ?_
                refine wp_istore (t := 55) rfl (by decide) rfl ?_
                refine wp_iinc (t := 56) rfl rfl (by decide) rfl ?_
                refine wp_goto (t := 57) (tgt := 25) rfl (by decide) ?_
                exact ihq (i + 1) 1 J (by omega) (by omega) (by omega) sm (Or.inr rfl) (step 1 ⟨fun _ => ⟨by omega, by rw [decide_eq_false (by omega), Bool.false_and]⟩, fun _ => rfl⟩)
              · refine wp_aload_n (t := 31) rfl rfl ?_
                refine wp_iload_n (t := 32) rfl rfl ?_
                refine wp_iload_n (t := 33) rfl rfl ?_
                refine wp_aload_n (t := 34) rfl rfl ?_
                refine wp_getR (t := 35) (ji := 13) rfl fX10_34 rfl rfl (by omega) (by first | rfl | assumption) (by first | exact hW _ _ _ (by omega) rfl | assumption) ?_
                refine wp_iconst (t := 36) rfl ?_
                refine wp_iload (t := 37) rfl rfl ?_
                refine wp_imul (t := 38) rfl ?_
                refine wp_iconst (t := 39) rfl ?_
                refine wp_iadd (t := 40) rfl ?_
                refine wp_iaload (t := 41) rfl (by omega) (by first | rfl | assumption) (by omega) (by omega) (by omega) ?_
                rw [e124]
                refine wp_vi (ci := 10) (c_X10_takesBy (d := d) hW hn ⟨by omega, by omega⟩ wi (by unfold mWc; rw [e118, e119]; exact ⟨hcc.2.2.1, hcc.2.2.2⟩) (by rw [e116]; exact hcc.1) (by unfold zin; omega)) (t := 42) rfl kX10_205 rfl rfl (by omega) (by first | rfl | assumption) ⟨_, _, rfl⟩ (Nat.le_of_ble_eq_true rfl) ⟨Nat.le_refl _, Nat.le_refl _⟩ (fun r66 I66 R66 c66 => ?_)
                refine wp_canon (fun hI1 => ?_)
                obtain ⟨⟨e66, b66, s66⟩, zr66⟩ := c66
                have zr66 := zr66.symm
                subst zr66
                rw [mTo_ext e116 e118 e119] at e66
                have sm6 : mSw I I66 := fun b b1 b2 => (s66 b b1 b2).trans (sm b b1 b2)
                have e124b : I66 124 = I 124 := sm6 124 (by decide) (by decide)
                refine wp_aload_n (t := 43) rfl rfl ?_
                refine wp_getR (t := 44) (ji := 13) rfl fX10_34 rfl rfl (by omega) (by first | rfl | assumption) (by first | exact hW _ _ _ (by omega) rfl | assumption) ?_
                refine wp_iconst (t := 45) rfl ?_
                refine wp_iload (t := 46) rfl rfl ?_
                refine wp_imul (t := 47) rfl ?_
                refine wp_iconst (t := 48) rfl ?_
                refine wp_iadd (t := 49) rfl ?_
                refine wp_iaload (t := 50) rfl (by omega) (by first | rfl | assumption) (by omega) (by omega) (by omega) ?_
                rw [e124b]
                refine wp_icmp_ne (t := 51) (tgt := 87) rfl (by decide) (by first | assumption | exact hI1 _ _ | exact hI0 _ _ | exact zin_and _ _ | (unfold zin; omega) | (unfold zin at *; omega)) (by rw [← e124b]; exact hI1 _ _) (fun h80 => ?_) (fun h80 => ?_)
                · refine wp_iconst (t := 54) rfl ?_
                  refine wp_istore (t := 55) rfl (by decide) rfl ?_
                  refine wp_iinc (t := 56) rfl rfl (by decide) rfl ?_
                  refine wp_goto (t := 57) (tgt := 25) rfl (by decide) ?_
                  exact ihq (i + 1) 0 I66 (by omega) (by omega) (by omega) sm6 (Or.inl rfl) (step 0 ⟨fun q => by omega, fun q => by
                    have := q.2
                    rw [decide_eq_true (show I 124 (3 * i) = c by omega), decide_eq_true (show ¬ mTo I k c (I 124 (3 * i + 1)) = I 124 (3 * i + 2) by omega)] at this
                    cases this⟩)
                · refine wp_iconst (t := 52) rfl ?_
                  refine wp_goto (t := 53) (tgt := 88) rfl (by decide) ?_
                  refine wp_istore (t := 55) rfl (by decide) rfl ?_
                  refine wp_iinc (t := 56) rfl rfl (by decide) rfl ?_
                  refine wp_goto (t := 57) (tgt := 25) rfl (by decide) ?_
                  exact ihq (i + 1) 1 I66 (by omega) (by omega) (by omega) sm6 (Or.inr rfl) (step 1 ⟨fun _ => ⟨by omega, by rw [decide_eq_false (show ¬ ¬ mTo I k c (I 124 (3 * i + 1)) = I 124 (3 * i + 2) by omega), Bool.and_false]⟩, fun _ => rfl⟩)
      refine wp_canon (fun hI0 => ?_)
      refine wp_iload_n (t := 10) rfl rfl ?_
      refine wp_iconst (t := 11) rfl ?_
      refine wp_icmp_ge (t := 12) (tgt := 117) rfl (by decide) (by first | assumption | exact hI0 _ _ | exact zin_and _ _ | (unfold zin; omega) | (unfold zin at *; omega)) (by first | assumption | exact hI0 _ _ | exact zin_and _ _ | (unfold zin; omega) | (unfold zin at *; omega)) (fun h16 => ?_) (fun h16 => ?_)
      · exact absurd h16 (by omega)
      · refine wp_iconst (t := 13) rfl ?_
        refine wp_istore (t := 14) rfl (by decide) rfl ?_
        refine wp_iconst (t := 15) rfl ?_
        refine wp_istore (t := 16) rfl (by decide) rfl ?_
        exact inner _ 0 1 J (by omega) (by omega) rfl sm (Or.inr rfl) ⟨fun _ a a0 a1 => absurd a1 (by omega), fun _ => rfl⟩
  refine wp_ls (ls' := [some (zR 115), some (zI c), none, none, none, none]) rfl ?_
  refine wp_aload_n (t := 0) rfl rfl ?_
  refine wp_iload_n (t := 1) rfl rfl ?_
  refine wp_vi (ci := 10) (c_X10_isCore (d := d) hW hn hc ⟨by omega, by omega⟩) (t := 2) rfl kX10_212 rfl rfl (by omega) (by first | rfl | assumption) ⟨_, _, rfl⟩ (Nat.le_of_ble_eq_true rfl) ⟨Nat.le_refl _, Nat.le_refl _⟩ (fun r2 I2 R2 c2 => ?_)
  refine wp_canon (fun hI1 => ?_)
  obtain ⟨e2, zi2, zr2⟩ := c2
  have zi2 := zi2.symm
  subst zi2
  have zr2 := zr2.symm
  subst zr2
  have b2 : 0 ≤ r2 ∧ r2 ≤ 1 := by rw [e2]; split <;> omega
  have n2 : ¬ r2 = 0 → 0 ≤ c ∧ c < I 115 2 := fun h => by (rw [e2] at h; by_cases q : 0 ≤ c ∧ c < I 115 2; exact q; rw [if_neg q] at h; exact absurd rfl h)
  have m2 : r2 = 0 → ¬ (0 ≤ c ∧ c < I 115 2) := fun h q => by (rw [e2, if_pos q] at h; exact absurd h (by decide))
  refine wp_if_ne (t := 3) (tgt := 10) rfl (by decide) (by first | assumption | exact hI1 _ _ | exact hI0 _ _ | exact zin_and _ _ | (unfold zin; omega) | (unfold zin at *; omega)) (fun h5 => ?_) (fun h5 => ?_)
  · refine wp_iconst (t := 6) rfl ?_
    refine wp_istore_n (t := 7) rfl (by decide) rfl ?_
    refine wp_iconst (t := 8) rfl ?_
    refine wp_istore_n (t := 9) rfl (by decide) rfl ?_
    exact loop (n2 h5) _ 0 I _ _ (by omega) (by omega) rfl (fun _ _ _ => rfl)
  · refine wp_iconst (t := 4) rfl ?_
    refine wp_ireturn (t := 5) rfl rfl ?_
    exact ⟨_, rfl, ⟨(if_pos (m2 (by omega))).symm, fun _ _ _ => rfl⟩, rfl⟩
set_option maxHeartbeats 4000000 in
set_option maxRecDepth 100000 in
theorem c_X10_best {G : zG} {d n : Nat} {I : zMem} {R : zRef} {k : Int} {Q : Nat} (hW : zWir n R) (hn : 143 ≤ n) (hch : mCh I) (hg : ∀ J, mSt I J → mTaken J → zGd (zClr (mS J (-4)))) (hka : ∀ c : Int, 0 ≤ c → c < I 115 2 → 0 ≤ I 122 c ∧ I 122 c ≤ 3) (hQ : zLast (I 115 2) Q) (hk : zin k) : MT G mX10_best (d + 8) 0 0 [zR 115, zI k] n I R (zP1 (fun r I' R' => ((¬ (-1 ≤ k ∧ k < I 115 2) ∧ r = -1 ∧ I' = I) ∨ ((-1 ≤ k ∧ k < I 115 2) ∧ ∃ r0 : Int, mBestP I (-4) Q r0 I' ∧ r = if k < 0 ∨ r0 < 0 then r0 else I' 142 k)) ∧ R' = R)) := by
  refine MT.of (by decide +kernel) tX10_best_ok (Nat.le_of_ble_eq_true rfl) (fun hI0 => ?_)
  have hco := hch.1
  refine wp_ls (ls' := [some (zR 115), some (zI k), none]) rfl ?_
  refine wp_iload_n (t := 0) rfl rfl ?_
  refine wp_i2l (t := 1) rfl (by first | assumption | exact hI0 _ _ | exact zin_and _ _ | (unfold zin; omega) | (unfold zin at *; omega)) ?_
  refine wp_ldc2 (-1) (t := 2) rfl (wsL_law_r37_l (List.mem_of_getElem? (i := 5) rfl)) (by decide) ?_
  refine wp_aload_n (t := 3) rfl rfl ?_
  refine wp_getI (t := 4) (ji := 2) rfl fX10_115 rfl rfl (by omega) (by first | rfl | assumption) ?_
  refine wp_iconst (t := 5) rfl ?_
  refine wp_isub (t := 6) rfl ?_
  refine wp_i2l (t := 7) rfl (by first | assumption | exact hI0 _ _ | exact zin_and _ _ | (unfold zin; omega) | (unfold zin at *; omega)) ?_
  refine wp_si (c_X10_in (d := d + 7) (zin_long hk) (by unfold zinL; omega) (by unfold zinL; omega)) (t := 8) rfl kX10_124 rfl rfl (Nat.le_of_ble_eq_true rfl) ⟨Nat.le_refl _, Nat.le_refl _⟩ (fun r12 I12 R12 c12 => ?_)
  refine wp_canon (fun hI1 => ?_)
  obtain ⟨e12, zi12, zr12⟩ := c12
  have zi12 := zi12.symm
  subst zi12
  have zr12 := zr12.symm
  subst zr12
  have b12 : 0 ≤ r12 ∧ r12 ≤ 1 := by rw [e12]; split <;> omega
  have n12 : ¬ r12 = 0 → -1 ≤ k ∧ k ≤ I 115 2 - 1 := fun h => by (rw [e12] at h; by_cases q : -1 ≤ k ∧ k ≤ I 115 2 - 1; exact q; rw [if_neg q] at h; exact absurd rfl h)
  have m12 : r12 = 0 → ¬ (-1 ≤ k ∧ k ≤ I 115 2 - 1) := fun h q => by (rw [e12, if_pos q] at h; exact absurd h (by decide))
  refine wp_if_ne (t := 9) (tgt := 20) rfl (by decide) (by first | assumption | exact hI1 _ _ | exact hI0 _ _ | exact zin_and _ _ | (unfold zin; omega) | (unfold zin at *; omega)) (fun h15 => ?_) (fun h15 => ?_)
  · refine wp_aload_n (t := 12) rfl rfl ?_
    refine wp_bipush (t := 13) rfl (by decide) ?_
    refine wp_vi (ci := 10) (c_X10_bestBy (wo := -4) (d := d) hW hn hch (by unfold zin; omega) hg hka hQ) (t := 14) rfl kX10_309 rfl rfl (by omega) (by first | rfl | assumption) ⟨_, _, rfl⟩ (Nat.le_of_ble_eq_true rfl) ⟨Nat.le_refl _, Nat.le_refl _⟩ (fun r23 I23 R23 c23 => ?_)
    refine wp_canon (fun hI2 => ?_)
    obtain ⟨c23, zr23⟩ := c23
    have zr23 := zr23.symm
    subst zr23
    have kk := n12 h15
    obtain ⟨K, k1, k2, k3, k4, k5, k6⟩ := id c23
    refine wp_istore_n (t := 15) rfl (by decide) rfl ?_
    refine wp_iload_n (t := 16) rfl rfl ?_
    refine wp_if_lt (t := 17) (tgt := 35) rfl (by decide) (by first | assumption | exact hI2 _ _ | exact hI1 _ _ | exact hI0 _ _ | exact zin_and _ _ | (unfold zin; omega) | (unfold zin at *; omega)) (fun h28 => ?_) (fun h28 => ?_)
    · refine wp_iload_n (t := 20) rfl rfl ?_
      refine wp_goto (t := 21) (tgt := 45) rfl (by decide) ?_
      refine wp_ireturn (t := 26) rfl rfl ?_
      exact ⟨_, rfl, Or.inr ⟨⟨kk.1, by omega⟩, r23, c23, (if_pos (Or.inl (by omega))).symm⟩, rfl⟩
    · refine wp_iload_n (t := 18) rfl rfl ?_
      refine wp_if_ge (t := 19) (tgt := 39) rfl (by decide) (by first | assumption | exact hI2 _ _ | exact hI1 _ _ | exact hI0 _ _ | exact zin_and _ _ | (unfold zin; omega) | (unfold zin at *; omega)) (fun h32 => ?_) (fun h32 => ?_)
      · refine wp_aload_n (t := 22) rfl rfl ?_
        refine wp_getR (t := 23) (ji := 43) rfl fX10_88 rfl rfl (by omega) (by first | rfl | assumption) (by first | exact hW _ _ _ (by omega) rfl | assumption) ?_
        refine wp_iload_n (t := 24) rfl rfl ?_
        refine wp_iaload (t := 25) rfl (by omega) (by first | rfl | assumption) (by omega) (by omega) (by omega) ?_
        refine wp_ireturn (t := 26) rfl rfl ?_
        exact ⟨_, rfl, Or.inr ⟨⟨kk.1, by omega⟩, r23, c23, (if_neg (fun q => by omega)).symm⟩, rfl⟩
      · refine wp_iload_n (t := 20) rfl rfl ?_
        refine wp_goto (t := 21) (tgt := 45) rfl (by decide) ?_
        refine wp_ireturn (t := 26) rfl rfl ?_
        exact ⟨_, rfl, Or.inr ⟨⟨kk.1, by omega⟩, r23, c23, (if_pos (Or.inr (by omega))).symm⟩, rfl⟩
  · refine wp_iconst (t := 10) rfl ?_
    refine wp_ireturn (t := 11) rfl rfl ?_
    exact ⟨_, rfl, Or.inl ⟨fun q => m12 (by omega) ⟨by omega, by omega⟩, rfl, rfl⟩, rfl⟩
theorem mBestP_Ch {I I' : zMem} {wo r : Int} {Q : Nat} (h : mBestP I wo Q r I') (hc : mCh I) : mCh I' := by
  obtain ⟨K, k1, k2, k3, k4, k5, k6, k7, k8⟩ := h
  unfold mCh at hc ⊢
  rw [k7 0 (by decide), k7 1 (by decide), k7 2 (by decide), k7 3 (by decide), k6 116 (by decide) (by decide) (by decide) (by decide) (by decide) (by decide) (by decide) (by decide), k6 117 (by decide) (by decide) (by decide) (by decide) (by decide) (by decide) (by decide) (by decide), k6 118 (by decide) (by decide) (by decide) (by decide) (by decide) (by decide) (by decide) (by decide), k6 119 (by decide) (by decide) (by decide) (by decide) (by decide) (by decide) (by decide) (by decide)]
  exact hc
set_option maxHeartbeats 4000000 in
set_option maxRecDepth 100000 in
theorem c_X10_costs {G : zG} {d n : Nat} {I : zMem} {R : zRef} {b : Int} {Q : Nat} (hW : zWir n R) (hn : 143 ≤ n) (hch : mCh I) (hg : ∀ J, mSt I J → mTaken J → zGd (zClr (mS J (-4)))) (hg2 : ∀ I' J r, mBestP I (-4) Q r I' → mSt I' J → mTaken J → zGd (zClr (mS J b))) (hka : ∀ c : Int, 0 ≤ c → c < I 115 2 → 0 ≤ I 122 c ∧ I 122 c ≤ 3) (hQ : zLast (I 115 2) Q) (hb : zin b) : MT G mX10_costs (d + 8) 0 0 [zR 115, zI b] n I R (zP1 (fun r I' R' => ((¬ (0 ≤ b ∧ b < I 115 3) ∧ r = -1 ∧ I' = I) ∨ ((0 ≤ b ∧ b < I 115 3) ∧ ∃ (r0 : Int) (I1 : zMem), mBestP I (-4) Q r0 I1 ∧ ((r0 < 0 ∧ r = -4 ∧ I' = I1) ∨ (0 ≤ r0 ∧ ∃ r1 : Int, mBestP I1 b Q r1 I' ∧ r = r0 - r1 + 100000)))) ∧ R' = R)) := by
  refine MT.of (by decide +kernel) tX10_costs_ok (Nat.le_of_ble_eq_true rfl) (fun hI0 => ?_)
  have hco := hch.1
  have hru := hch.2.2.2.1
  refine wp_ls (ls' := [some (zR 115), some (zI b), none]) rfl ?_
  refine wp_iload_n (t := 0) rfl rfl ?_
  refine wp_i2l (t := 1) rfl (by first | assumption | exact hI0 _ _ | exact zin_and _ _ | (unfold zin; omega) | (unfold zin at *; omega)) ?_
  refine wp_lconst 0 (t := 2) rfl (by decide) ?_
  refine wp_aload_n (t := 3) rfl rfl ?_
  refine wp_getI (t := 4) (ji := 3) rfl fX10_121 rfl rfl (by omega) (by first | rfl | assumption) ?_
  refine wp_iconst (t := 5) rfl ?_
  refine wp_isub (t := 6) rfl ?_
  refine wp_i2l (t := 7) rfl (by first | assumption | exact hI0 _ _ | exact zin_and _ _ | (unfold zin; omega) | (unfold zin at *; omega)) ?_
  refine wp_si (c_X10_in (d := d + 7) (zin_long hb) (by unfold zinL; omega) (by unfold zinL; omega)) (t := 8) rfl kX10_124 rfl rfl (Nat.le_of_ble_eq_true rfl) ⟨Nat.le_refl _, Nat.le_refl _⟩ (fun r10 I10 R10 c10 => ?_)
  refine wp_canon (fun hI1 => ?_)
  obtain ⟨e10, zi10, zr10⟩ := c10
  have zi10 := zi10.symm
  subst zi10
  have zr10 := zr10.symm
  subst zr10
  have b10 : 0 ≤ r10 ∧ r10 ≤ 1 := by rw [e10]; split <;> omega
  have n10 : ¬ r10 = 0 → 0 ≤ b ∧ b ≤ I 115 3 - 1 := fun h => by (rw [e10] at h; by_cases q : 0 ≤ b ∧ b ≤ I 115 3 - 1; exact q; rw [if_neg q] at h; exact absurd rfl h)
  have m10 : r10 = 0 → ¬ (0 ≤ b ∧ b ≤ I 115 3 - 1) := fun h q => by (rw [e10, if_pos q] at h; exact absurd h (by decide))
  refine wp_if_ne (t := 9) (tgt := 18) rfl (by decide) (by first | assumption | exact hI1 _ _ | exact hI0 _ _ | exact zin_and _ _ | (unfold zin; omega) | (unfold zin at *; omega)) (fun h13 => ?_) (fun h13 => ?_)
  · refine wp_aload_n (t := 12) rfl rfl ?_
    refine wp_bipush (t := 13) rfl (by decide) ?_
    refine wp_vi (ci := 10) (c_X10_bestBy (wo := -4) (d := d) hW hn hch (by unfold zin; omega) hg hka hQ) (t := 14) rfl kX10_309 rfl rfl (by omega) (by first | rfl | assumption) ⟨_, _, rfl⟩ (Nat.le_of_ble_eq_true rfl) ⟨Nat.le_refl _, Nat.le_refl _⟩ (fun r21 I21 R21 c21 => ?_)
    refine wp_canon (fun hI2 => ?_)
    obtain ⟨c21, zr21⟩ := c21
    have zr21 := zr21.symm
    subst zr21
    have kk := n10 h13
    obtain ⟨K, k1, k2, k3, k4, k5, k6, k7, k8⟩ := id c21
    have i2 : I21 115 2 = I 115 2 := k7 2 (by decide)
    refine wp_istore_n (t := 15) rfl (by decide) rfl ?_
    refine wp_iload_n (t := 16) rfl rfl ?_
    refine wp_if_ge (t := 17) (tgt := 34) rfl (by decide) (by first | assumption | exact hI2 _ _ | exact hI1 _ _ | exact hI0 _ _ | exact zin_and _ _ | (unfold zin; omega) | (unfold zin at *; omega)) (fun h26 => ?_) (fun h26 => ?_)
    · refine wp_iload_n (t := 20) rfl rfl ?_
      refine wp_aload_n (t := 21) rfl rfl ?_
      refine wp_iload_n (t := 22) rfl rfl ?_
      refine wp_vi (ci := 10) (c_X10_bestBy (wo := b) (Q := Q) (d := d) hW hn (mBestP_Ch c21 hch) hb (fun J s t => hg2 I21 J r21 c21 s t) (fun c c0 c1 => by rw [i2] at c1; rw [k8 c c0 (by omega)]; exact hka c c0 c1) (by rw [i2]; exact hQ)) (t := 23) rfl kX10_309 rfl rfl (by omega) (by first | rfl | assumption) ⟨_, _, rfl⟩ (Nat.le_of_ble_eq_true rfl) ⟨Nat.le_refl _, Nat.le_refl _⟩ (fun r37 I37 R37 c37 => ?_)
      refine wp_canon (fun hI3 => ?_)
      obtain ⟨c37, zr37⟩ := c37
      have zr37 := zr37.symm
      subst zr37
      obtain ⟨K2, -, -, -, -, b5, -⟩ := id c37
      refine wp_isub (t := 24) rfl ?_
      refine wp_ldc (100000) (t := 25) rfl (wsL_law_r21_l (List.mem_of_getElem? (i := 9) rfl)) (by decide) ?_
      refine wp_iadd (t := 26) rfl ?_
      refine wp_ireturn (t := 27) rfl rfl ?_
      exact ⟨_, rfl, Or.inr ⟨⟨kk.1, by omega⟩, r21, I21, c21, Or.inr ⟨by omega, r37, c37, rfl⟩⟩, rfl⟩
    · refine wp_bipush (t := 18) rfl (by decide) ?_
      refine wp_goto (t := 19) (tgt := 44) rfl (by decide) ?_
      refine wp_ireturn (t := 27) rfl rfl ?_
      exact ⟨_, rfl, Or.inr ⟨⟨kk.1, by omega⟩, r21, I21, c21, Or.inl ⟨by omega, rfl, rfl⟩⟩, rfl⟩
  · refine wp_iconst (t := 10) rfl ?_
    refine wp_ireturn (t := 11) rfl rfl ?_
    exact ⟨_, rfl, Or.inl ⟨fun q => m10 (by omega) ⟨by omega, by omega⟩, rfl, rfl⟩, rfl⟩
