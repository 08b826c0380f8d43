/-! the reference: what can be undone, what is put aside, the next core -/
/-- the plan r noted as the latest that can be undone -/
def mNote (I I' : zMem) (r : Int → Int) : Prop := I' 115 12 = (if I 115 12 < 8 then I 115 12 else 7) + 1 ∧ (∀ j : Int, j ≠ 12 → I' 115 j = I 115 j) ∧
  (∀ k j : Int, 0 ≤ k → k < (if I 115 12 < 8 then I 115 12 else 7) → 0 ≤ j → j < 18 → I' 123 (18 * k + j) = I 123 (18 * (if I 115 12 < 8 then k else k + 1) + j)) ∧
  (∀ j : Int, 0 ≤ j → j < 18 → I' 123 (18 * (if I 115 12 < 8 then I 115 12 else 7) + j) = r j)
set_option maxHeartbeats 4000000 in
set_option maxRecDepth 100000 in
theorem c_X10_note {G : zG} {d n : Nat} {I : zMem} {R : zRef} (hW : zWir n R) (hn : 143 ≤ n) (hu : 0 ≤ I 115 12 ∧ I 115 12 ≤ 8) : MT G mX10_note d 0 0 [zR 115] n I R (zP0 (fun I' R' => (mNote I I' (I 122) ∧ ∀ b : Nat, b ≠ 115 → b ≠ 123 → I' b = I b) ∧ R' = R)) := by
  refine MT.of (by decide +kernel) tX10_note_ok (Nat.le_of_ble_eq_true rfl) (fun hI0 => ?_)
  generalize hue : (if I 115 12 < 8 then I 115 12 else 7) = u
  have hub : 0 ≤ u ∧ u ≤ 7 := by rw [← hue]; split <;> omega
  -- the plan is written behind the others
  have key2 : ∀ (m : Nat) (k : Int) (J : zMem), 0 ≤ k → k ≤ 18 → (18 - k).toNat = m → J 115 12 = u → (∀ j : Int, j ≠ 12 → J 115 j = I 115 j) → (∀ k j : Int, 0 ≤ k → k < u → 0 ≤ j → j < 18 → J 123 (18 * k + j) = I 123 (18 * (if I 115 12 < 8 then k else k + 1) + j)) → (∀ j : Int, 0 ≤ j → j < k → J 123 (18 * u + j) = I 122 j) → (∀ b : Nat, b ≠ 115 → b ≠ 123 → J b = I b) →
      WP G mX10_note d 0 0 0 0 50 [some (zR 115), some (zI k)] [] n J R (zP0 (fun I' R' => (mNote I I' (I 122) ∧ ∀ b : Nat, b ≠ 115 → b ≠ 123 → I' b = I b) ∧ R' = R)) := by
    intro m
    induction m with
    | zero =>
      intro k J k0 k1 km h1 h2 h3 h4 h5
      refine wp_canon (fun hI0 => ?_)
      refine wp_iload_n (t := 29) rfl rfl ?_
      refine wp_bipush (t := 30) rfl (by decide) ?_
      refine wp_icmp_ge (t := 31) (tgt := 82) rfl (by decide) (by first | assumption | exact hI0 _ _ | exact zin_and _ _ | (unfold zin; omega) | (unfold zin at *; omega)) (by first | assumption | exact hI0 _ _ | exact zin_and _ _ | (unfold zin; omega) | (unfold zin at *; omega)) (fun h53 => ?_) (fun h53 => ?_)
      · refine wp_aload_n (t := 47) rfl rfl ?_
        refine wp_dup (t := 48) rfl rfl ?_
        refine wp_getI (t := 49) (ji := 12) rfl fX10_188 rfl rfl (by omega) (by first | rfl | assumption) ?_
        rw [h1]
        refine wp_iconst (t := 50) rfl ?_
        refine wp_iadd (t := 51) rfl ?_
        refine wp_putI (t := 52) (ji := 12) rfl fX10_188 p10_12 rfl rfl (by omega) (by first | rfl | assumption) (by first | assumption | exact hI0 _ _ | exact zin_and _ _ | (unfold zin; omega) | (unfold zin at *; omega)) ?_
        refine wp_canon (fun hI1 => ?_)
        refine wp_return (t := 53) rfl rfl ?_
        refine ⟨rfl, ⟨⟨by rw [zu_eq, hue], fun j hj => by rw [zu_ni hj]; exact h2 j hj, fun k j g0 g1 g2 g3 => ?_, fun j g0 g1 => ?_⟩, fun b b1 b2 => by rw [zu_ne b1]; exact h5 b b1 b2⟩, rfl⟩
        · rw [zu_ne (by decide)]
          exact h3 k j g0 (by omega) g2 g3
        · rw [zu_ne (by decide), hue]
          exact h4 j g0 (by omega)
      · exact absurd h53 (by omega)
    | succ m ih =>
      intro k J k0 k1 km h1 h2 h3 h4 h5
      have e122 : J 122 = I 122 := h5 122 (by decide) (by decide)
      refine wp_canon (fun hI0 => ?_)
      refine wp_iload_n (t := 29) rfl rfl ?_
      refine wp_bipush (t := 30) rfl (by decide) ?_
      refine wp_icmp_ge (t := 31) (tgt := 82) rfl (by decide) (by first | assumption | exact hI0 _ _ | exact zin_and _ _ | (unfold zin; omega) | (unfold zin at *; omega)) (by first | assumption | exact hI0 _ _ | exact zin_and _ _ | (unfold zin; omega) | (unfold zin at *; omega)) (fun h53 => ?_) (fun h53 => ?_)
      · exact absurd h53 (by omega)
      · refine wp_aload_n (t := 32) rfl rfl ?_
        refine wp_getR (t := 33) (ji := 11) rfl fX10_31 rfl rfl (by omega) (by first | rfl | assumption) (by first | exact hW _ _ _ (by omega) rfl | assumption) ?_
        refine wp_bipush (t := 34) rfl (by decide) ?_
        refine wp_aload_n (t := 35) rfl rfl ?_
        refine wp_getI (t := 36) (ji := 12) rfl fX10_188 rfl rfl (by omega) (by first | rfl | assumption) ?_
        rw [h1]
        refine wp_imul (t := 37) rfl ?_
        refine wp_iload_n (t := 38) rfl rfl ?_
        refine wp_iadd (t := 39) rfl ?_
        refine wp_aload_n (t := 40) rfl rfl ?_
        refine wp_getR (t := 41) (ji := 10) rfl fX10_28 rfl rfl (by omega) (by first | rfl | assumption) (by first | exact hW _ _ _ (by omega) rfl | assumption) ?_
        refine wp_iload_n (t := 42) rfl rfl ?_
        refine wp_iaload (t := 43) rfl (by omega) (by first | rfl | assumption) (by omega) (by omega) (by omega) ?_
        rw [e122]
        refine wp_iastore (t := 44) rfl (by omega) (by first | rfl | assumption) (by omega) (by omega) (by omega) (by rw [← e122]; exact hI0 _ _) ?_
        refine wp_canon (fun hI1 => ?_)
        refine wp_iinc (t := 45) rfl rfl (by decide) rfl ?_
        refine wp_goto (t := 46) (tgt := 50) rfl (by decide) ?_
        refine ih (k + 1) _ (by omega) (by omega) (by omega) (by rw [zu_ne (by decide)]; exact h1) (fun j hj => by rw [zu_ne (by decide)]; exact h2 j hj) (fun k' j g0 g1 g2 g3 => by rw [zu_ni (by omega)]; exact h3 k' j g0 g1 g2 g3) (fun j g0 g1 => ?_) (fun b b1 b2 => by rw [zu_ne b2]; exact h5 b b1 b2)
        by_cases e : j = k
        · rw [e, zu_eq]
        · rw [zu_ni (by omega)]
          exact h4 j g0 (by omega)
  have key1 : ∀ (m : Nat) (k : Int) (J : zMem), I 115 12 = 8 → 0 ≤ k → k ≤ 126 → (126 - k).toNat = m → (∀ i : Int, 0 ≤ i → i < k → J 123 i = I 123 (i + 18)) → (∀ i : Int, k ≤ i → J 123 i = I 123 i) → (∀ b : Nat, b ≠ 123 → J b = I b) →
      WP G mX10_note d 0 0 0 0 11 [some (zR 115), some (zI k)] [] n J R (zP0 (fun I' R' => (mNote I I' (I 122) ∧ ∀ b : Nat, b ≠ 115 → b ≠ 123 → I' b = I b) ∧ R' = R)) := by
    intro m
    induction m with
    | zero =>
      intro k J h8 k0 k1 km h1 h2 h3
      have e115 : J 115 = I 115 := h3 115 (by decide)
      have eu : u = 7 := by rw [← hue]; exact if_neg (by omega)
      refine wp_canon (fun hI0 => ?_)
      refine wp_iload_n (t := 6) rfl rfl ?_
      refine wp_bipush (t := 7) rfl (by decide) ?_
      refine wp_icmp_ge (t := 8) (tgt := 38) rfl (by decide) (by first | assumption | exact hI0 _ _ | exact zin_and _ _ | (unfold zin; omega) | (unfold zin at *; omega)) (by first | assumption | exact hI0 _ _ | exact zin_and _ _ | (unfold zin; omega) | (unfold zin at *; omega)) (fun h14 => ?_) (fun h14 => ?_)
      · refine wp_aload_n (t := 21) rfl rfl ?_
        refine wp_dup (t := 22) rfl rfl ?_
        refine wp_getI (t := 23) (ji := 12) rfl fX10_188 rfl rfl (by omega) (by first | rfl | assumption) ?_
        rw [e115, h8]
        refine wp_iconst (t := 24) rfl ?_
        refine wp_isub (t := 25) rfl ?_
        refine wp_putI (t := 26) (ji := 12) rfl fX10_188 p10_12 rfl rfl (by omega) (by first | rfl | assumption) (by first | assumption | exact hI0 _ _ | exact zin_and _ _ | (unfold zin; omega) | (unfold zin at *; omega)) ?_
        refine wp_canon (fun hI1 => ?_)
        refine wp_iconst (t := 27) rfl ?_
        refine wp_istore_n (t := 28) rfl (by decide) rfl ?_
        refine key2 _ 0 _ (by omega) (by omega) rfl (by rw [zu_eq, eu]; rfl) (fun j hj => by rw [zu_ni hj, e115]) (fun k' j g0 g1 g2 g3 => ?_) (fun j g0 g1 => absurd g1 (by omega)) (fun b b1 b2 => by rw [zu_ne b1]; exact h3 b b2)
        rw [zu_ne (by decide), if_neg (by omega), h1 (18 * k' + j) (by omega) (by omega)]
        congr 1
        omega
      · exact absurd h14 (by omega)
    | succ m ih =>
      intro k J h8 k0 k1 km h1 h2 h3
      refine wp_canon (fun hI0 => ?_)
      refine wp_iload_n (t := 6) rfl rfl ?_
      refine wp_bipush (t := 7) rfl (by decide) ?_
      refine wp_icmp_ge (t := 8) (tgt := 38) rfl (by decide) (by first | assumption | exact hI0 _ _ | exact zin_and _ _ | (unfold zin; omega) | (unfold zin at *; omega)) (by first | assumption | exact hI0 _ _ | exact zin_and _ _ | (unfold zin; omega) | (unfold zin at *; omega)) (fun h14 => ?_) (fun h14 => ?_)
      · exact absurd h14 (by omega)
      · refine wp_aload_n (t := 9) rfl rfl ?_
        refine wp_getR (t := 10) (ji := 11) rfl fX10_31 rfl rfl (by omega) (by first | rfl | assumption) (by first | exact hW _ _ _ (by omega) rfl | assumption) ?_
        refine wp_iload_n (t := 11) rfl rfl ?_
        refine wp_aload_n (t := 12) rfl rfl ?_
        refine wp_getR (t := 13) (ji := 11) rfl fX10_31 rfl rfl (by omega) (by first | rfl | assumption) (by first | exact hW _ _ _ (by omega) rfl | assumption) ?_
        refine wp_iload_n (t := 14) rfl rfl ?_
        refine wp_bipush (t := 15) rfl (by decide) ?_
        refine wp_iadd (t := 16) rfl ?_
        refine wp_iaload (t := 17) rfl (by omega) (by first | rfl | assumption) (by omega) (by omega) (by omega) ?_
        refine wp_iastore (t := 18) rfl (by omega) (by first | rfl | assumption) (by omega) (by omega) (by omega) (by first | assumption | exact hI0 _ _ | exact zin_and _ _ | (unfold zin; omega) | (unfold zin at *; omega)) ?_
        refine wp_canon (fun hI1 => ?_)
        refine wp_iinc (t := 19) rfl rfl (by decide) rfl ?_
        refine wp_goto (t := 20) (tgt := 11) rfl (by decide) ?_
        refine ih (k + 1) _ h8 (by omega) (by omega) (by omega) (fun i i0 i1 => ?_) (fun i i0 => ?_) (fun b hb => by rw [zu_ne hb]; exact h3 b hb)
        · by_cases e : i = k
          · rw [e, zu_eq]
            exact h2 (k + 18) (by omega)
          · rw [zu_ni e]
            exact h1 i i0 (by omega)
        · rw [zu_ni (by omega)]
          exact h2 i (by omega)
  refine wp_ls (ls' := [some (zR 115), none]) rfl ?_
  refine wp_aload_n (t := 0) rfl rfl ?_
  refine wp_getI (t := 1) (ji := 12) rfl fX10_188 rfl rfl (by omega) (by first | rfl | assumption) ?_
  refine wp_bipush (t := 2) rfl (by decide) ?_
  refine wp_icmp_ne (t := 3) (tgt := 48) rfl (by decide) (by first | assumption | exact hI0 _ _ | exact zin_and _ _ | (unfold zin; omega) | (unfold zin at *; omega)) (by first | assumption | exact hI0 _ _ | exact zin_and _ _ | (unfold zin; omega) | (unfold zin at *; omega)) (fun h6 => ?_) (fun h6 => ?_)
  · refine wp_iconst (t := 27) rfl ?_
    refine wp_istore_n (t := 28) rfl (by decide) rfl ?_
    have lt8 : I 115 12 < 8 := by omega
    exact key2 _ 0 I (by omega) (by omega) rfl (by rw [← hue, if_pos lt8]) (fun _ _ => rfl) (fun k j g0 g1 g2 g3 => by rw [if_pos lt8]) (fun j g0 g1 => absurd g1 (by omega)) (fun _ _ _ => rfl)
  · refine wp_iconst (t := 4) rfl ?_
    refine wp_istore_n (t := 5) rfl (by decide) rfl ?_
    exact key1 _ 0 I (by omega) (by omega) (by omega) rfl (fun i i0 i1 => absurd i1 (by omega)) (fun _ _ => rfl) (fun _ _ => rfl)
set_option maxHeartbeats 4000000 in
set_option maxRecDepth 100000 in
theorem c_X10_putAside {G : zG} {d n : Nat} {I : zMem} {R : zRef} {bk : Int} (hW : zWir n R) (hn : 143 ≤ n) (hb : bk = 0 ∨ bk = 1) : MT G mX10_putAside d 0 0 [zR 115, zI bk] n I R (zP0 (fun I' R' => ((bk = 0 → (∀ b : Nat, b ≠ 138 → I' b = I b) ∧ ∀ j : Int, 0 ≤ j → j < 18 → I' 138 j = I 122 j) ∧ (bk = 1 → (∀ b : Nat, b ≠ 122 → I' b = I b) ∧ ∀ j : Int, 0 ≤ j → j < 18 → I' 122 j = I 138 j)) ∧ R' = R)) := by
  refine MT.of (by decide +kernel) tX10_putAside_ok (Nat.le_of_ble_eq_true rfl) (fun hI0 => ?_)
  have key : ∀ (m : Nat) (k : Int) (J : zMem), 0 ≤ k → k ≤ 18 → (18 - k).toNat = m → (bk = 0 → (∀ b : Nat, b ≠ 138 → J b = I b) ∧ ∀ j : Int, 0 ≤ j → j < k → J 138 j = I 122 j) → (bk = 1 → (∀ b : Nat, b ≠ 122 → J b = I b) ∧ ∀ j : Int, 0 ≤ j → j < k → J 122 j = I 138 j) →
      WP G mX10_putAside d 0 0 0 0 2 [some (zR 115), some (zI bk), some (zI k)] [] n J R (zP0 (fun I' R' => ((bk = 0 → (∀ b : Nat, b ≠ 138 → I' b = I b) ∧ ∀ j : Int, 0 ≤ j → j < 18 → I' 138 j = I 122 j) ∧ (bk = 1 → (∀ b : Nat, b ≠ 122 → I' b = I b) ∧ ∀ j : Int, 0 ≤ j → j < 18 → I' 122 j = I 138 j)) ∧ R' = R)) := by
    intro m
    induction m with
    | zero =>
      intro k J k0 k1 km h1 h2
      have e : k = 18 := by omega
      subst e
      refine wp_iload_n (t := 2) rfl rfl ?_
      refine wp_bipush (t := 3) rfl (by decide) ?_
      refine wp_icmp_ge (t := 4) (tgt := 45) rfl (by decide) (by first | assumption | exact hI0 _ _ | exact zin_and _ _ | (unfold zin; omega) | (unfold zin at *; omega)) (by first | assumption | exact hI0 _ _ | exact zin_and _ _ | (unfold zin; omega) | (unfold zin at *; omega)) (fun h5 => ?_) (fun h5 => ?_)
      · refine wp_return (t := 26) rfl rfl ?_
        exact ⟨rfl, ⟨h1, h2⟩, rfl⟩
      · exact absurd h5 (by omega)
    | succ m ih =>
      intro k J k0 k1 km h1 h2
      refine wp_canon (fun hI0 => ?_)
      refine wp_iload_n (t := 2) rfl rfl ?_
      refine wp_bipush (t := 3) rfl (by decide) ?_
      refine wp_icmp_ge (t := 4) (tgt := 45) rfl (by decide) (by first | assumption | exact hI0 _ _ | exact zin_and _ _ | (unfold zin; omega) | (unfold zin at *; omega)) (by first | assumption | exact hI0 _ _ | exact zin_and _ _ | (unfold zin; omega) | (unfold zin at *; omega)) (fun h5 => ?_) (fun h5 => ?_)
      · exact absurd h5 (by omega)
      · refine wp_iload_n (t := 5) rfl rfl ?_
        refine wp_if_eq (t := 6) (tgt := 27) rfl (by decide) (by first | assumption | exact hI0 _ _ | exact zin_and _ _ | (unfold zin; omega) | (unfold zin at *; omega)) (fun h9 => ?_) (fun h9 => ?_)
        · refine wp_aload_n (t := 16) rfl rfl ?_
          refine wp_getR (t := 17) (ji := 39) rfl fX10_76 rfl rfl (by omega) (by first | rfl | assumption) (by first | exact hW _ _ _ (by omega) rfl | assumption) ?_
          refine wp_iload_n (t := 18) rfl rfl ?_
          refine wp_aload_n (t := 19) rfl rfl ?_
          refine wp_getR (t := 20) (ji := 10) rfl fX10_28 rfl rfl (by omega) (by first | rfl | assumption) (by first | exact hW _ _ _ (by omega) rfl | assumption) ?_
          refine wp_iload_n (t := 21) rfl rfl ?_
          refine wp_iaload (t := 22) rfl (by omega) (by first | rfl | assumption) (by omega) (by omega) (by omega) ?_
          refine wp_iastore (t := 23) rfl (by omega) (by first | rfl | assumption) (by omega) (by omega) (by omega) (by first | assumption | exact hI0 _ _ | exact zin_and _ _ | (unfold zin; omega) | (unfold zin at *; omega)) ?_
          refine wp_canon (fun hI1 => ?_)
          refine wp_iinc (t := 24) rfl rfl (by decide) rfl ?_
          refine wp_goto (t := 25) (tgt := 2) rfl (by decide) ?_
          have g := h1 (by omega)
          have e122 : J 122 = I 122 := g.1 122 (by decide)
          refine ih (k + 1) _ (by omega) (by omega) (by omega) (fun _ => ⟨fun b hb => by rw [zu_ne hb]; exact g.1 b hb, fun j j0 j1 => ?_⟩) (fun q => by omega)
          by_cases e : j = k
          · rw [e, zu_eq, e122]
          · rw [zu_ni e]
            exact g.2 j j0 (by omega)
        · refine wp_aload_n (t := 7) rfl rfl ?_
          refine wp_getR (t := 8) (ji := 10) rfl fX10_28 rfl rfl (by omega) (by first | rfl | assumption) (by first | exact hW _ _ _ (by omega) rfl | assumption) ?_
          refine wp_iload_n (t := 9) rfl rfl ?_
          refine wp_aload_n (t := 10) rfl rfl ?_
          refine wp_getR (t := 11) (ji := 39) rfl fX10_76 rfl rfl (by omega) (by first | rfl | assumption) (by first | exact hW _ _ _ (by omega) rfl | assumption) ?_
          refine wp_iload_n (t := 12) rfl rfl ?_
          refine wp_iaload (t := 13) rfl (by omega) (by first | rfl | assumption) (by omega) (by omega) (by omega) ?_
          refine wp_iastore (t := 14) rfl (by omega) (by first | rfl | assumption) (by omega) (by omega) (by omega) (by first | assumption | exact hI0 _ _ | exact zin_and _ _ | (unfold zin; omega) | (unfold zin at *; omega)) ?_
          refine wp_canon (fun hI1 => ?_)
          refine wp_goto (t := 15) (tgt := 39) rfl (by decide) ?_
          refine wp_iinc (t := 24) rfl rfl (by decide) rfl ?_
          refine wp_goto (t := 25) (tgt := 2) rfl (by decide) ?_
          have g := h2 (by omega)
          have e138 : J 138 = I 138 := g.1 138 (by decide)
          refine ih (k + 1) _ (by omega) (by omega) (by omega) (fun q => by omega) (fun _ => ⟨fun b hb => by rw [zu_ne hb]; exact g.1 b hb, fun j j0 j1 => ?_⟩)
          by_cases e : j = k
          · rw [e, zu_eq, e138]
          · rw [zu_ni e]
            exact g.2 j j0 (by omega)
  refine wp_ls (ls' := [some (zR 115), some (zI bk), none]) rfl ?_
  refine wp_iconst (t := 0) rfl ?_
  refine wp_istore_n (t := 1) rfl (by decide) rfl ?_
  exact key _ 0 I (by omega) (by omega) rfl (fun _ => ⟨fun _ _ => rfl, fun j j0 j1 => absurd j1 (by omega)⟩) (fun _ => ⟨fun _ _ => rfl, fun j j0 j1 => absurd j1 (by omega)⟩)
set_option maxHeartbeats 4000000 in
set_option maxRecDepth 100000 in
theorem c_X10_keepFilled {G : zG} {d n : Nat} {I : zMem} {R : zRef} (hW : zWir n R) (hn : 143 ≤ n) (hu : 0 ≤ I 115 12 ∧ I 115 12 ≤ 8) : MT G mX10_keepFilled (d + 1) 0 0 [zR 115] n I R (zP0 (fun I' R' => ((∃ r : Int → Int, (∀ j : Int, 0 ≤ j → j < 18 → r j = I 138 j) ∧ mNote I I' r) ∧ (∀ j : Int, 0 ≤ j → j < 18 → I' 122 j = I 122 j) ∧ ∀ b : Nat, b ≠ 115 → b ≠ 122 → b ≠ 123 → b ≠ 139 → I' b = I b) ∧ R' = R)) := by
  refine MT.of (by decide +kernel) tX10_keepFilled_ok (Nat.le_of_ble_eq_true rfl) (fun hI0 => ?_)
  have key2 : ∀ (m : Nat) (k : Int) (J : zMem), 0 ≤ k → k ≤ 18 → (18 - k).toNat = m → (∃ r : Int → Int, (∀ j : Int, 0 ≤ j → j < 18 → r j = I 138 j) ∧ mNote I J r) → (∀ j : Int, 0 ≤ j → j < 18 → J 139 j = I 122 j) → (∀ j : Int, 0 ≤ j → j < k → J 122 j = I 122 j) → (∀ b : Nat, b ≠ 115 → b ≠ 122 → b ≠ 123 → b ≠ 139 → J b = I b) →
      WP G mX10_keepFilled (d + 1) 0 0 0 0 37 [some (zR 115), some (zI k)] [] n J R (zP0 (fun I' R' => ((∃ r : Int → Int, (∀ j : Int, 0 ≤ j → j < 18 → r j = I 138 j) ∧ mNote I I' r) ∧ (∀ j : Int, 0 ≤ j → j < 18 → I' 122 j = I 122 j) ∧ ∀ b : Nat, b ≠ 115 → b ≠ 122 → b ≠ 123 → b ≠ 139 → I' b = I b) ∧ R' = R)) := by
    intro m
    induction m with
    | zero =>
      intro k J k0 k1 km h1 h2 h3 h4
      have e : k = 18 := by omega
      subst e
      refine wp_iload_n (t := 22) rfl rfl ?_
      refine wp_bipush (t := 23) rfl (by decide) ?_
      refine wp_icmp_ge (t := 24) (tgt := 61) rfl (by decide) (by first | assumption | exact hI0 _ _ | exact zin_and _ _ | (unfold zin; omega) | (unfold zin at *; omega)) (by first | assumption | exact hI0 _ _ | exact zin_and _ _ | (unfold zin; omega) | (unfold zin at *; omega)) (fun h40 => ?_) (fun h40 => ?_)
      · refine wp_return (t := 35) rfl rfl ?_
        exact ⟨rfl, ⟨h1, h3, h4⟩, rfl⟩
      · exact absurd h40 (by omega)
    | succ m ih =>
      intro k J k0 k1 km h1 h2 h3 h4
      refine wp_canon (fun hI0 => ?_)
      refine wp_iload_n (t := 22) rfl rfl ?_
      refine wp_bipush (t := 23) rfl (by decide) ?_
      refine wp_icmp_ge (t := 24) (tgt := 61) rfl (by decide) (by first | assumption | exact hI0 _ _ | exact zin_and _ _ | (unfold zin; omega) | (unfold zin at *; omega)) (by first | assumption | exact hI0 _ _ | exact zin_and _ _ | (unfold zin; omega) | (unfold zin at *; omega)) (fun h40 => ?_) (fun h40 => ?_)
      · exact absurd h40 (by omega)
      · refine wp_aload_n (t := 25) rfl rfl ?_
        refine wp_getR (t := 26) (ji := 10) rfl fX10_28 rfl rfl (by omega) (by first | rfl | assumption) (by first | exact hW _ _ _ (by omega) rfl | assumption) ?_
        refine wp_iload_n (t := 27) rfl rfl ?_
        refine wp_aload_n (t := 28) rfl rfl ?_
        refine wp_getR (t := 29) (ji := 40) rfl fX10_79 rfl rfl (by omega) (by first | rfl | assumption) (by first | exact hW _ _ _ (by omega) rfl | assumption) ?_
        refine wp_iload_n (t := 30) rfl rfl ?_
        refine wp_iaload (t := 31) rfl (by omega) (by first | rfl | assumption) (by omega) (by omega) (by omega) ?_
        refine wp_iastore (t := 32) rfl (by omega) (by first | rfl | assumption) (by omega) (by omega) (by omega) (by first | assumption | exact hI0 _ _ | exact zin_and _ _ | (unfold zin; omega) | (unfold zin at *; omega)) ?_
        refine wp_canon (fun hI1 => ?_)
        refine wp_iinc (t := 33) rfl rfl (by decide) rfl ?_
        refine wp_goto (t := 34) (tgt := 37) rfl (by decide) ?_
        obtain ⟨r, q1, q2, q3, q4, q5⟩ := h1
        refine ih (k + 1) _ (by omega) (by omega) (by omega) ⟨r, q1, by rw [zu_ne (by decide)]; exact q2, fun j hj => by rw [zu_ne (by decide)]; exact q3 j hj, fun a b g1 g2 g3 g4 => by rw [zu_ne (by decide)]; exact q4 a b g1 g2 g3 g4, fun j g1 g2 => by rw [zu_ne (by decide)]; exact q5 j g1 g2⟩ (fun j j0 j1 => by rw [zu_ne (by decide)]; exact h2 j j0 j1) (fun j j0 j1 => ?_) (fun b b1 b2 b3 b4 => by rw [zu_ne b2]; exact h4 b b1 b2 b3 b4)
        by_cases e : j = k
        · rw [e, zu_eq]
          exact h2 k k0 (by omega)
        · rw [zu_ni e]
          exact h3 j j0 (by omega)
  have key1 : ∀ (m : Nat) (k : Int) (J : zMem), 0 ≤ k → k ≤ 18 → (18 - k).toNat = m → (∀ j : Int, 0 ≤ j → j < k → J 139 j = I 122 j) → (∀ b : Nat, b ≠ 139 → J b = I b) →
      WP G mX10_keepFilled (d + 1) 0 0 0 0 2 [some (zR 115), some (zI k)] [] n J R (zP0 (fun I' R' => ((∃ r : Int → Int, (∀ j : Int, 0 ≤ j → j < 18 → r j = I 138 j) ∧ mNote I I' r) ∧ (∀ j : Int, 0 ≤ j → j < 18 → I' 122 j = I 122 j) ∧ ∀ b : Nat, b ≠ 115 → b ≠ 122 → b ≠ 123 → b ≠ 139 → I' b = I b) ∧ R' = R)) := by
    intro m
    induction m with
    | zero =>
      intro k J k0 k1 km h1 h2
      have e : k = 18 := by omega
      subst e
      have e115 : J 115 = I 115 := h2 115 (by decide)
      refine wp_iload_n (t := 2) rfl rfl ?_
      refine wp_bipush (t := 3) rfl (by decide) ?_
      refine wp_icmp_ge (t := 4) (tgt := 26) rfl (by decide) (by first | assumption | exact hI0 _ _ | exact zin_and _ _ | (unfold zin; omega) | (unfold zin at *; omega)) (by first | assumption | exact hI0 _ _ | exact zin_and _ _ | (unfold zin; omega) | (unfold zin at *; omega)) (fun h5 => ?_) (fun h5 => ?_)
      · refine wp_aload_n (t := 15) rfl rfl ?_
        refine wp_iconst (t := 16) rfl ?_
        refine wp_vv (ci := 10) (c_X10_putAside (bk := 1) (d := d) hW hn (Or.inr rfl)) (t := 17) rfl kX10_267 rfl rfl (by omega) (by first | rfl | assumption) ⟨_, _, rfl⟩ (Nat.le_of_ble_eq_true rfl) ⟨Nat.le_refl _, Nat.le_refl _⟩ (fun I28 R28 c28 => ?_)
        refine wp_canon (fun hI1 => ?_)
        obtain ⟨⟨-, p28⟩, zr28⟩ := c28
        have zr28 := zr28.symm
        subst zr28
        obtain ⟨f28, s28⟩ := p28 rfl
        have i115 : I28 115 = I 115 := (f28 115 (by decide)).trans e115
        have i123 : I28 123 = I 123 := (f28 123 (by decide)).trans (h2 123 (by decide))
        have i138 : J 138 = I 138 := h2 138 (by decide)
        refine wp_aload_n (t := 18) rfl rfl ?_
        refine wp_vv (ci := 10) (c_X10_note (d := d) hW hn (by rw [i115]; exact hu)) (t := 19) rfl kX10_254 rfl rfl (by omega) (by first | rfl | assumption) ⟨_, _, rfl⟩ (Nat.le_of_ble_eq_true rfl) ⟨Nat.le_refl _, Nat.le_refl _⟩ (fun I32 R32 c32 => ?_)
        refine wp_canon (fun hI2 => ?_)
        obtain ⟨⟨p32, f32⟩, zr32⟩ := c32
        have zr32 := zr32.symm
        subst zr32
        refine wp_iconst (t := 20) rfl ?_
        refine wp_istore_n (t := 21) rfl (by decide) rfl ?_
        refine key2 _ 0 _ (by omega) (by omega) rfl ⟨I28 122, fun j j0 j1 => by rw [s28 j j0 j1, i138], ?_⟩ (fun j j0 j1 => ?_) (fun j j0 j1 => absurd j1 (by omega)) (fun b b1 b2 b3 b4 => ?_)
        · unfold mNote at p32 ⊢
          rw [i115, i123] at p32
          exact p32
        · rw [f32 139 (by decide) (by decide), f28 139 (by decide)]
          exact h1 j j0 j1
        · rw [f32 b b1 b3, f28 b b2]
          exact h2 b b4
      · exact absurd h5 (by omega)
    | succ m ih =>
      intro k J k0 k1 km h1 h2
      have e122 : J 122 = I 122 := h2 122 (by decide)
      refine wp_canon (fun hI0 => ?_)
      refine wp_iload_n (t := 2) rfl rfl ?_
      refine wp_bipush (t := 3) rfl (by decide) ?_
      refine wp_icmp_ge (t := 4) (tgt := 26) rfl (by decide) (by first | assumption | exact hI0 _ _ | exact zin_and _ _ | (unfold zin; omega) | (unfold zin at *; omega)) (by first | assumption | exact hI0 _ _ | exact zin_and _ _ | (unfold zin; omega) | (unfold zin at *; omega)) (fun h5 => ?_) (fun h5 => ?_)
      · exact absurd h5 (by omega)
      · refine wp_aload_n (t := 5) rfl rfl ?_
        refine wp_getR (t := 6) (ji := 40) rfl fX10_79 rfl rfl (by omega) (by first | rfl | assumption) (by first | exact hW _ _ _ (by omega) rfl | assumption) ?_
        refine wp_iload_n (t := 7) rfl rfl ?_
        refine wp_aload_n (t := 8) rfl rfl ?_
        refine wp_getR (t := 9) (ji := 10) rfl fX10_28 rfl rfl (by omega) (by first | rfl | assumption) (by first | exact hW _ _ _ (by omega) rfl | assumption) ?_
        refine wp_iload_n (t := 10) rfl rfl ?_
        refine wp_iaload (t := 11) rfl (by omega) (by first | rfl | assumption) (by omega) (by omega) (by omega) ?_
        refine wp_iastore (t := 12) rfl (by omega) (by first | rfl | assumption) (by omega) (by omega) (by omega) (by first | assumption | exact hI0 _ _ | exact zin_and _ _ | (unfold zin; omega) | (unfold zin at *; omega)) ?_
        refine wp_canon (fun hI1 => ?_)
        refine wp_iinc (t := 13) rfl rfl (by decide) rfl ?_
        refine wp_goto (t := 14) (tgt := 2) rfl (by decide) ?_
        refine ih (k + 1) _ (by omega) (by omega) (by omega) (fun j j0 j1 => ?_) (fun b hb => by rw [zu_ne hb]; exact h2 b hb)
        by_cases e : j = k
        · rw [e, zu_eq, e122]
        · rw [zu_ni e]
          exact h1 j j0 (by omega)
  refine wp_ls (ls' := [some (zR 115), none]) rfl ?_
  refine wp_iconst (t := 0) rfl ?_
  refine wp_istore_n (t := 1) rfl (by decide) rfl ?_
  exact key1 _ 0 I (by omega) (by omega) rfl (fun j j0 j1 => absurd j1 (by omega)) (fun _ _ => rfl)
/-- the next core that filling puts; -4 -/
def sNext (S : zS) : Int := zfirst (fun c => decide (¬ 0 < sW S c) && decide (sWait S c = -4)) (sN S).toNat
set_option maxHeartbeats 4000000 in
set_option maxRecDepth 100000 in
theorem c_X10_nextCore {G : zG} {d n : Nat} {I : zMem} {R : zRef} (hW : zWir n R) (hn : 143 ≤ n) (hch : mCh I) : MT G mX10_nextCore (d + 1) 0 0 [zR 115] n I R (zP1 (fun r I' R' => r = sNext (mS I (-4)) ∧ I' = I ∧ R' = R)) := by
  refine MT.of (by decide +kernel) tX10_nextCore_ok (Nat.le_of_ble_eq_true rfl) (fun hI0 => ?_)
  have hco := hch.1
  have hru := hch.2.2.2.1
  have key : ∀ (m : Nat) (c : Int) (x2 x3 : Option zV), 0 ≤ c → c ≤ I 115 2 → (I 115 2 - c).toNat = m → (∀ i : Int, 0 ≤ i → i < c → (decide (¬ 0 < sW (mS I (-4)) i) && decide (sWait (mS I (-4)) i = -4)) = false) →
      WP G mX10_nextCore (d + 1) 0 0 0 0 2 [some (zR 115), some (zI c), x2, x3] [] n I R (zP1 (fun r I' R' => r = sNext (mS I (-4)) ∧ I' = I ∧ R' = R)) := by
    intro m
    induction m with
    | zero =>
      intro c x2 x3 h0 h1 hm hs
      refine wp_iload_n (t := 2) rfl rfl ?_
      refine wp_aload_n (t := 3) rfl rfl ?_
      refine wp_getI (t := 4) (ji := 2) rfl fX10_115 rfl rfl (by omega) (by first | rfl | assumption) ?_
      refine wp_icmp_ge (t := 5) (tgt := 81) rfl (by decide) (by first | assumption | exact hI0 _ _ | exact zin_and _ _ | (unfold zin; omega) | (unfold zin at *; omega)) (by first | assumption | exact hI0 _ _ | exact zin_and _ _ | (unfold zin; omega) | (unfold zin at *; omega)) (fun h7 => ?_) (fun h7 => ?_)
      · refine wp_bipush (t := 44) rfl (by decide) ?_
        refine wp_ireturn (t := 45) rfl rfl ?_
        exact ⟨_, rfl, (zfirst_none (fun i g0 g1 => hs i g0 (by have : i < ((I 115 2).toNat : Int) := g1; omega))).symm, rfl, rfl⟩
      · exact absurd h7 (by omega)
    | succ m ih =>
      intro c x2 x3 h0 h1 hm hs
      have inner : ∀ (k : Nat) (a may : Int), 0 ≤ a → a ≤ I 115 2 → (I 115 2 - a).toNat = k → c < I 115 2 → (may = 0 ∨ may = 1) → (may = 1 ↔ (¬ 0 < I 122 (6 + c) ∧ ∀ i : Int, 0 ≤ i → i < a → mA I (-4) i c = true → 0 < I 122 (6 + i))) →
          WP G mX10_nextCore (d + 1) 0 0 0 0 26 [some (zR 115), some (zI c), some (zI may), some (zI a)] [] n I R (zP1 (fun r I' R' => r = sNext (mS I (-4)) ∧ I' = I ∧ R' = R)) := by
        intro k
        induction k with
        | zero =>
          intro a may a0 a1 hk hc9 h01 hmay
          have hw : (∀ i : Int, 0 ≤ i → i < a → mA I (-4) i c = true → 0 < I 122 (6 + i)) ↔ sWait (mS I (-4)) c = -4 := by
            rw [sWait_iff]
            exact ⟨fun h i i0 i1 i2 => h i i0 (by have : i < I 115 2 := i1; omega) i2, fun h i i0 i1 i2 => h i i0 (by show i < I 115 2; omega) i2⟩
          rw [hw] at hmay
          refine wp_iload_n (t := 16) rfl rfl ?_
          refine wp_aload_n (t := 17) rfl rfl ?_
          refine wp_getI (t := 18) (ji := 2) rfl fX10_115 rfl rfl (by omega) (by first | rfl | assumption) ?_
          refine wp_icmp_ge (t := 19) (tgt := 69) rfl (by decide) (by first | assumption | exact hI0 _ _ | exact zin_and _ _ | (unfold zin; omega) | (unfold zin at *; omega)) (by first | assumption | exact hI0 _ _ | exact zin_and _ _ | (unfold zin; omega) | (unfold zin at *; omega)) (fun h31 => ?_) (fun h31 => ?_)
          · refine wp_iload_n (t := 38) rfl rfl ?_
            refine wp_if_eq (t := 39) (tgt := 75) rfl (by decide) (by first | assumption | exact hI0 _ _ | exact zin_and _ _ | (unfold zin; omega) | (unfold zin at *; omega)) (fun h70 => ?_) (fun h70 => ?_)
            · refine wp_iinc (t := 42) rfl rfl (by decide) rfl ?_
              refine wp_goto (t := 43) (tgt := 2) rfl (by decide) ?_
              refine ih (c + 1) _ _ (by omega) (by omega) (by omega) (fun i i0 i1 => ?_)
              by_cases e : i = c
              · rw [e]
                have ng : ¬ (¬ 0 < I 122 (6 + c) ∧ sWait (mS I (-4)) c = -4) := fun q => by have := hmay.mpr q; omega
                by_cases q : 0 < I 122 (6 + c)
                · rw [decide_eq_false (show ¬ ¬ 0 < sW (mS I (-4)) c from fun z => z q), Bool.false_and]
                · rw [decide_eq_false (show ¬ sWait (mS I (-4)) c = -4 from fun z => ng ⟨q, z⟩), Bool.and_false]
              · exact hs i i0 (by omega)
            · refine wp_iload_n (t := 40) rfl rfl ?_
              refine wp_ireturn (t := 41) rfl rfl ?_
              have g := hmay.mp (by omega)
              exact ⟨_, rfl, (zfirst_some h0 (show c < ((I 115 2).toNat : Int) by omega) (by rw [decide_eq_true (show ¬ 0 < sW (mS I (-4)) c from g.1), decide_eq_true g.2]; rfl) hs).symm, rfl, rfl⟩
          · exact absurd h31 (by omega)
        | succ k ihk =>
          intro a may a0 a1 hk hc9 h01 hmay
          have step : ∀ (v : Prop), (v ↔ (mA I (-4) a c = true → 0 < I 122 (6 + a))) → ((may = 1 ∧ v) ↔ (¬ 0 < I 122 (6 + c) ∧ ∀ i : Int, 0 ≤ i → i < a + 1 → mA I (-4) i c = true → 0 < I 122 (6 + i))) := fun v hv => by
            rw [hmay, hv]
            constructor
            · rintro ⟨⟨p1, p2⟩, p3⟩
              refine ⟨p1, fun i i0 i1 i2 => ?_⟩
              by_cases e : i = a
              · rw [e] at i2 ⊢
                exact p3 i2
              · exact p2 i i0 (by omega) i2
            · rintro ⟨p1, p2⟩
              exact ⟨⟨p1, fun i i0 i1 i2 => p2 i i0 (by omega) i2⟩, fun q => p2 a a0 (by omega) q⟩
          refine wp_iload_n (t := 16) rfl rfl ?_
          refine wp_aload_n (t := 17) rfl rfl ?_
          refine wp_getI (t := 18) (ji := 2) rfl fX10_115 rfl rfl (by omega) (by first | rfl | assumption) ?_
          refine wp_icmp_ge (t := 19) (tgt := 69) rfl (by decide) (by first | assumption | exact hI0 _ _ | exact zin_and _ _ | (unfold zin; omega) | (unfold zin at *; omega)) (by first | assumption | exact hI0 _ _ | exact zin_and _ _ | (unfold zin; omega) | (unfold zin at *; omega)) (fun h31 => ?_) (fun h31 => ?_)
          · exact absurd h31 (by omega)
          · refine wp_iload_n (t := 20) rfl rfl ?_
            refine wp_if_eq (t := 21) (tgt := 61) rfl (by decide) (by first | assumption | exact hI0 _ _ | exact zin_and _ _ | (unfold zin; omega) | (unfold zin at *; omega)) (fun h35 => ?_) (fun h35 => ?_)
            · refine wp_iconst (t := 34) rfl ?_
              refine wp_istore_n (t := 35) rfl (by decide) rfl ?_
              refine wp_iinc (t := 36) rfl rfl (by decide) rfl ?_
              refine wp_goto (t := 37) (tgt := 26) rfl (by decide) ?_
              refine ihk (a + 1) 0 (by omega) (by omega) (by omega) hc9 (Or.inl rfl) ?_
              rw [← step _ Iff.rfl]
              exact ⟨fun q => by omega, fun q => by omega⟩
            · refine wp_aload_n (t := 22) rfl rfl ?_
              refine wp_iload_n (t := 23) rfl rfl ?_
              refine wp_vi (ci := 10) (c_X10_isPut (d := d) hW hn ⟨by omega, by omega⟩) (t := 24) rfl kX10_215 rfl rfl (by omega) (by first | rfl | assumption) ⟨_, _, rfl⟩ (Nat.le_of_ble_eq_true rfl) ⟨Nat.le_refl _, Nat.le_refl _⟩ (fun r40 I40 R40 c40 => ?_)
              refine wp_canon (fun hI1 => ?_)
              obtain ⟨e40, zi40, zr40⟩ := c40
              have zi40 := zi40.symm
              subst zi40
              have zr40 := zr40.symm
              subst zr40
              have b40 : 0 ≤ r40 ∧ r40 ≤ 1 := by rw [e40]; split <;> omega
              have n40 : ¬ r40 = 0 → 0 < I 122 (6 + a) := fun h => by (rw [e40] at h; by_cases q : 0 < I 122 (6 + a); exact q; rw [if_neg q] at h; exact absurd rfl h)
              have m40 : r40 = 0 → ¬ (0 < I 122 (6 + a)) := fun h q => by (rw [e40, if_pos q] at h; exact absurd h (by decide))
              refine wp_if_ne (t := 25) (tgt := 57) rfl (by decide) (by first | assumption | exact hI1 _ _ | exact hI0 _ _ | exact zin_and _ _ | (unfold zin; omega) | (unfold zin at *; omega)) (fun h43 => ?_) (fun h43 => ?_)
              · refine wp_iconst (t := 32) rfl ?_
                refine wp_goto (t := 33) (tgt := 62) rfl (by decide) ?_
                refine wp_istore_n (t := 35) rfl (by decide) rfl ?_
                refine wp_iinc (t := 36) rfl rfl (by decide) rfl ?_
                refine wp_goto (t := 37) (tgt := 26) rfl (by decide) ?_
                refine ihk (a + 1) 1 (by omega) (by omega) (by omega) hc9 (Or.inr rfl) ?_
                rw [← step _ Iff.rfl]
                exact ⟨fun _ => ⟨by omega, fun _ => n40 h43⟩, fun _ => rfl⟩
              · refine wp_aload_n (t := 26) rfl rfl ?_
                refine wp_iload_n (t := 27) rfl rfl ?_
                refine wp_iload_n (t := 28) rfl rfl ?_
                refine wp_bipush (t := 29) rfl (by decide) ?_
                refine wp_vi (ci := 10) (c_X10_isAhead (d := d) hW hn hru (by unfold zin; omega) (by unfold zin; omega) (by unfold zin; omega)) (t := 30) rfl kX10_237 rfl rfl (by omega) (by first | rfl | assumption) ⟨_, _, rfl⟩ (Nat.le_of_ble_eq_true rfl) ⟨Nat.le_refl _, Nat.le_refl _⟩ (fun r51 I51 R51 c51 => ?_)
                refine wp_canon (fun hI2 => ?_)
                obtain ⟨e51, zi51, zr51⟩ := c51
                have zi51 := zi51.symm
                subst zi51
                have zr51 := zr51.symm
                subst zr51
                have b51 : 0 ≤ r51 ∧ r51 ≤ 1 := by rw [e51]; split <;> omega
                have n51 : ¬ r51 = 0 → mA I (-4) a c = true := fun h => by (rw [e51] at h; by_cases q : mA I (-4) a c = true; exact q; rw [if_neg q] at h; exact absurd rfl h)
                have m51 : r51 = 0 → ¬ (mA I (-4) a c = true) := fun h q => by (rw [e51, if_pos q] at h; exact absurd h (by decide))
                refine wp_if_ne (t := 31) (tgt := 61) rfl (by decide) (by first | assumption | exact hI2 _ _ | exact hI1 _ _ | exact hI0 _ _ | exact zin_and _ _ | (unfold zin; omega) | (unfold zin at *; omega)) (fun h54 => ?_) (fun h54 => ?_)
                · refine wp_iconst (t := 34) rfl ?_
                  refine wp_istore_n (t := 35) rfl (by decide) rfl ?_
                  refine wp_iinc (t := 36) rfl rfl (by decide) rfl ?_
                  refine wp_goto (t := 37) (tgt := 26) rfl (by decide) ?_
                  refine ihk (a + 1) 0 (by omega) (by omega) (by omega) hc9 (Or.inl rfl) ?_
                  rw [← step _ Iff.rfl]
                  exact ⟨fun q => by omega, fun q => absurd (q.2 (n51 h54)) (m40 (by omega))⟩
                · refine wp_iconst (t := 32) rfl ?_
                  refine wp_goto (t := 33) (tgt := 62) rfl (by decide) ?_
                  refine wp_istore_n (t := 35) rfl (by decide) rfl ?_
                  refine wp_iinc (t := 36) rfl rfl (by decide) rfl ?_
                  refine wp_goto (t := 37) (tgt := 26) rfl (by decide) ?_
                  refine ihk (a + 1) 1 (by omega) (by omega) (by omega) hc9 (Or.inr rfl) ?_
                  rw [← step _ Iff.rfl]
                  exact ⟨fun _ => ⟨by omega, fun q => absurd q (m51 (by omega))⟩, fun _ => rfl⟩
      refine wp_iload_n (t := 2) rfl rfl ?_
      refine wp_aload_n (t := 3) rfl rfl ?_
      refine wp_getI (t := 4) (ji := 2) rfl fX10_115 rfl rfl (by omega) (by first | rfl | assumption) ?_
      refine wp_icmp_ge (t := 5) (tgt := 81) rfl (by decide) (by first | assumption | exact hI0 _ _ | exact zin_and _ _ | (unfold zin; omega) | (unfold zin at *; omega)) (by first | assumption | exact hI0 _ _ | exact zin_and _ _ | (unfold zin; omega) | (unfold zin at *; omega)) (fun h7 => ?_) (fun h7 => ?_)
      · exact absurd h7 (by omega)
      · refine wp_aload_n (t := 6) rfl rfl ?_
        refine wp_iload_n (t := 7) rfl rfl ?_
        refine wp_vi (ci := 10) (c_X10_isPut (d := d) hW hn ⟨by omega, by omega⟩) (t := 8) rfl kX10_215 rfl rfl (by omega) (by first | rfl | assumption) ⟨_, _, rfl⟩ (Nat.le_of_ble_eq_true rfl) ⟨Nat.le_refl _, Nat.le_refl _⟩ (fun r12 I12 R12 c12 => ?_)
        refine wp_canon (fun hI1 => ?_)
        obtain ⟨e12, zi12, zr12⟩ := c12
        have zi12 := zi12.symm
        subst zi12
        have zr12 := zr12.symm
        subst zr12
        have b12 : 0 ≤ r12 ∧ r12 ≤ 1 := by rw [e12]; split <;> omega
        have n12 : ¬ r12 = 0 → 0 < I 122 (6 + c) := fun h => by (rw [e12] at h; by_cases q : 0 < I 122 (6 + c); exact q; rw [if_neg q] at h; exact absurd rfl h)
        have m12 : r12 = 0 → ¬ (0 < I 122 (6 + c)) := fun h q => by (rw [e12, if_pos q] at h; exact absurd h (by decide))
        refine wp_if_ne (t := 9) (tgt := 22) rfl (by decide) (by first | assumption | exact hI1 _ _ | exact hI0 _ _ | exact zin_and _ _ | (unfold zin; omega) | (unfold zin at *; omega)) (fun h15 => ?_) (fun h15 => ?_)
        · refine wp_iconst (t := 12) rfl ?_
          refine wp_istore_n (t := 13) rfl (by decide) rfl ?_
          refine wp_iconst (t := 14) rfl ?_
          refine wp_istore_n (t := 15) rfl (by decide) rfl ?_
          exact inner _ 0 0 (by omega) (by omega) rfl (by omega) (Or.inl rfl) ⟨fun q => by omega, fun q => absurd (n12 h15) q.1⟩
        · refine wp_iconst (t := 10) rfl ?_
          refine wp_goto (t := 11) (tgt := 23) rfl (by decide) ?_
          refine wp_istore_n (t := 13) rfl (by decide) rfl ?_
          refine wp_iconst (t := 14) rfl ?_
          refine wp_istore_n (t := 15) rfl (by decide) rfl ?_
          exact inner _ 0 1 (by omega) (by omega) rfl (by omega) (Or.inr rfl) ⟨fun _ => ⟨m12 (by omega), fun i i0 i1 => absurd i1 (by omega)⟩, fun _ => rfl⟩
  refine wp_ls (ls' := [some (zR 115), none, none, none]) rfl ?_
  refine wp_iconst (t := 0) rfl ?_
  refine wp_istore_n (t := 1) rfl (by decide) rfl ?_
  exact key _ 0 _ _ (by omega) (by omega) rfl (fun i i0 i1 => absurd i1 (by omega))
