/-! the reference's own methods: a core told -/
def dq (x : Int) : Nat → Int
  | 0 => x
  | k + 1 => (dq x k).tdiv 10
theorem dq_b {x : Int} (hx : 0 ≤ x ∧ x ≤ 999999) : ∀ k : Nat, 0 ≤ dq x k ∧ dq x k ≤ 999999
  | 0 => hx
  | k + 1 => by
    have i := dq_b hx k
    show 0 ≤ (dq x k).tdiv 10 ∧ (dq x k).tdiv 10 ≤ 999999
    rw [Int.tdiv_eq_ediv_of_nonneg i.1]
    omega
theorem dq_tm {x : Int} (hx : 0 ≤ x ∧ x ≤ 999999) (k : Nat) : 0 ≤ (dq x k).tmod 10 ∧ (dq x k).tmod 10 ≤ 9 := by
  have i := dq_b hx k
  rw [Int.tmod_eq_emod_of_nonneg i.1]
  omega
theorem zcmp_le {x : Int} : zcmp x 0 ≤ 0 ↔ x ≤ 0 := by
  unfold zcmp
  split
  · exact ⟨fun _ => by omega, fun _ => by decide⟩
  · split
    · exact ⟨fun _ => by omega, fun _ => by decide⟩
    · exact ⟨fun h => absurd h (by decide), fun h => by omega⟩
theorem zcmp_b (x y : Int) : zin (zcmp x y) := by
  unfold zcmp zin
  split
  · omega
  · split <;> omega
def mTell (I : zMem) (k pt dr x : Int) (m : Nat) (I' : zMem) : Prop :=
  I' 128 (I 115 25) = k ∧ I' 129 (I 115 25) = pt ∧ I' 130 (I 115 25) = dr ∧ I' 131 (I 115 25) = m ∧ (∀ j : Nat, j < m → I' 132 (6 * I 115 25 + j) = (dq x (m - 1 - j)).tmod 10) ∧ I' 115 25 = I 115 25 + 1 ∧
  (∀ j : Int, j < I 115 25 → I' 128 j = I 128 j ∧ I' 129 j = I 129 j ∧ I' 130 j = I 130 j ∧ I' 131 j = I 131 j) ∧ (∀ j : Int, j < 6 * I 115 25 → I' 132 j = I 132 j) ∧ (∀ j : Int, j ≠ 25 → I' 115 j = I 115 j) ∧ ∀ b : Nat, b ≠ 115 → b ≠ 128 → b ≠ 129 → b ≠ 130 → b ≠ 131 → b ≠ 132 → I' b = I b
set_option maxHeartbeats 4000000 in
set_option maxRecDepth 100000 in
theorem c_X10_tell {G : zG} {d n : Nat} {I : zMem} {R : zRef} {k pt dr x : Int} (m : Nat) (hW : zWir n R) (hn : 143 ≤ n) (hN : 0 ≤ I 115 25 ∧ I 115 25 < 6) (hk : zin k) (hp : zin pt) (hd : zin dr) (hx : 0 ≤ x ∧ x ≤ 999999) (hm : m ≤ 6) (h1 : ∀ j : Nat, j < m → 0 < dq x j) (h2 : dq x m ≤ 0) : MT G mX10_tell d 0 0 [zR 115, zI k, zI pt, zI dr, zJ x] n I R (zP0 (fun I' R' => mTell I k pt dr x m I' ∧ R' = R)) := by
  refine MT.of (by decide +kernel) tX10_tell_ok (Nat.le_of_ble_eq_true rfl) (fun hI0 => ?_)
  have hLx : zinL x := by unfold zinL; omega
  generalize hNe : I 115 25 = N at *
  -- what both loops keep
  have loop2 : ∀ (q : Nat) (j : Int) (K : zMem), q ≤ m → j = (q : Int) - 1 → K 128 N = k → K 129 N = pt → K 130 N = dr → K 131 N = m → K 115 = I 115 → (∀ i : Nat, q ≤ i → i < m → K 132 (6 * N + i) = (dq x (m - 1 - i)).tmod 10) → (∀ j : Int, j < N → K 128 j = I 128 j ∧ K 129 j = I 129 j ∧ K 130 j = I 130 j ∧ K 131 j = I 131 j) → (∀ j : Int, j < 6 * N → K 132 j = I 132 j) → (∀ b : Nat, b ≠ 115 → b ≠ 128 → b ≠ 129 → b ≠ 130 → b ≠ 131 → b ≠ 132 → K b = I b) →
      WP G mX10_tell d 0 0 0 0 77 [some (zR 115), some (zI k), some (zI pt), some (zI dr), some (zJ x), none, some (zI N), some (zI m), some (zJ (dq x (m - q))), none, some (zI j)] [] n K R (zP0 (fun I' R' => mTell I k pt dr x m I' ∧ R' = R)) := by
    intro q
    induction q with
    | zero =>
      intro j K q0 hj k1 k2 k3 k4 k5 k6 k7 k8 k9
      refine wp_canon (fun hI0 => ?_)
      refine wp_iload (t := 43) rfl rfl ?_
      refine wp_if_lt (t := 44) (tgt := 116) rfl (by decide) (by first | assumption | exact hI0 _ _ | exact zin_and _ _ | (unfold zin; omega) | (unfold zin at *; omega)) (fun h79 => ?_) (fun h79 => ?_)
      · refine wp_aload_n (t := 63) rfl rfl ?_
        refine wp_dup (t := 64) rfl rfl ?_
        refine wp_getI (t := 65) (ji := 25) rfl fX10_112 rfl rfl (by omega) (by first | rfl | assumption) ?_
        refine wp_iconst (t := 66) rfl ?_
        refine wp_iadd (t := 67) rfl ?_
        rw [k5, hNe]
        refine wp_putI (t := 68) (ji := 25) rfl fX10_112 p10_25 rfl rfl (by omega) (by first | rfl | assumption) (by unfold zin; omega) ?_
        refine wp_canon (fun hI1 => ?_)
        refine wp_return (t := 69) rfl rfl ?_
        refine ⟨rfl, ?_, rfl⟩
        unfold mTell
        rw [hNe]
        refine ⟨?_, ?_, ?_, ?_, fun i i1 => ?_, zu_eq, fun j hj => ?_, fun j hj => ?_, fun j hj => ?_, fun b b1 b2 b3 b4 b5 b6 => ?_⟩
        · rw [zu_ne (by decide)]; exact k1
        · rw [zu_ne (by decide)]; exact k2
        · rw [zu_ne (by decide)]; exact k3
        · rw [zu_ne (by decide)]; exact k4
        · rw [zu_ne (by decide)]; exact k6 i (by omega) i1
        · rw [zu_ne (by decide), zu_ne (by decide), zu_ne (by decide), zu_ne (by decide)]; exact k7 j hj
        · rw [zu_ne (by decide)]; exact k8 j hj
        · rw [zu_ni hj, k5]
        · rw [zu_ne b1]; exact k9 b b1 b2 b3 b4 b5 b6
      · exact absurd h79 (by omega)
    | succ q ih =>
      intro j K q0 hj k1 k2 k3 k4 k5 k6 k7 k8 k9
      have hb := dq_b hx (m - (q + 1))
      have hm2 := dq_tm hx (m - (q + 1))
      have hL : zinL (dq x (m - (q + 1))) := by unfold zinL; omega
      have hs : (dq x (m - (q + 1))).tdiv 10 = dq x (m - q) := by rw [show m - q = (m - (q + 1)) + 1 by omega]; rfl
      refine wp_canon (fun hI0 => ?_)
      refine wp_iload (t := 43) rfl rfl ?_
      refine wp_if_lt (t := 44) (tgt := 116) rfl (by decide) (by first | assumption | exact hI0 _ _ | exact zin_and _ _ | (unfold zin; omega) | (unfold zin at *; omega)) (fun h79 => ?_) (fun h79 => ?_)
      · exact absurd h79 (by omega)
      · refine wp_aload_n (t := 45) rfl rfl ?_
        refine wp_getR (t := 46) (ji := 31) rfl fX10_58 rfl rfl (by omega) (by first | rfl | assumption) (by first | exact hW _ _ _ (by omega) rfl | assumption) ?_
        refine wp_bipush (t := 47) rfl (by decide) ?_
        refine wp_iload (t := 48) rfl rfl ?_
        refine wp_imul (t := 49) rfl ?_
        refine wp_iload (t := 50) rfl rfl ?_
        refine wp_iadd (t := 51) rfl ?_
        refine wp_lload (t := 52) rfl rfl ?_
        refine wp_ldc2 (10) (t := 53) rfl (wsL_law_r15_l (List.mem_of_getElem? (i := 20) rfl)) (by decide) ?_
        refine wp_lrem (t := 54) rfl hL (by unfold zinL; omega) (by omega) ?_
        refine wp_l2i (t := 55) rfl ?_
        refine wp_iastore (t := 56) rfl (by omega) (by first | rfl | assumption) (by omega) (by omega) (by omega) (by unfold zin; omega) ?_
        refine wp_canon (fun hI1 => ?_)
        refine wp_lload (t := 57) rfl rfl ?_
        refine wp_ldc2 (10) (t := 58) rfl (wsL_law_r15_l (List.mem_of_getElem? (i := 20) rfl)) (by decide) ?_
        refine wp_ldiv (t := 59) rfl hL (by unfold zinL; omega) (by omega) ?_
        rw [hs]
        refine wp_lstore (t := 60) rfl (by decide) rfl ?_
        refine wp_iinc (t := 61) rfl rfl (by decide) rfl ?_
        refine wp_goto (t := 62) (tgt := 77) rfl (by decide) ?_
        refine ih _ _ (by omega) (by omega) ?_ ?_ ?_ ?_ ?_ (fun i i0 i1 => ?_) (fun j hj => ?_) (fun j hj => ?_) (fun b b1 b2 b3 b4 b5 b6 => ?_)
        · rw [zu_ne (by decide)]; exact k1
        · rw [zu_ne (by decide)]; exact k2
        · rw [zu_ne (by decide)]; exact k3
        · rw [zu_ne (by decide)]; exact k4
        · rw [zu_ne (by decide)]; exact k5
        · by_cases e : i = q
          · rw [e, show 6 * N + (q : Int) = 6 * N + j by omega, zu_eq, show m - 1 - q = m - (q + 1) by omega]
          · rw [zu_ni (by omega)]; exact k6 i (by omega) i1
        · rw [zu_ne (by decide), zu_ne (by decide), zu_ne (by decide), zu_ne (by decide)]; exact k7 j hj
        · rw [zu_ni (by omega)]; exact k8 j hj
        · rw [zu_ne b6]; exact k9 b b1 b2 b3 b4 b5 b6
  have loop1 : ∀ (q : Nat) (i : Nat) (K : zMem) (x10 : Option zV), i ≤ m → m - i = q → K 128 N = k → K 129 N = pt → K 130 N = dr → K 115 = I 115 → (∀ j : Int, j < N → K 128 j = I 128 j ∧ K 129 j = I 129 j ∧ K 130 j = I 130 j) → (∀ b : Nat, b ≠ 115 → b ≠ 128 → b ≠ 129 → b ≠ 130 → K b = I b) →
      WP G mX10_tell d 0 0 0 0 37 [some (zR 115), some (zI k), some (zI pt), some (zI dr), some (zJ x), none, some (zI N), some (zI i), some (zJ (dq x i)), none, x10] [] n K R (zP0 (fun I' R' => mTell I k pt dr x m I' ∧ R' = R)) := by
    intro q
    induction q with
    | zero =>
      intro i K x10 i0 iq k1 k2 k3 k5 k7 k9
      have hi : i = m := by omega
      subst hi
      have hb := dq_b hx i
      have hL : zinL (dq x i) := by unfold zinL; omega
      have hc := zcmp_b (dq x i) 0
      have hc2 := zcmp_le (x := dq x i)
      refine wp_canon (fun hI0 => ?_)
      refine wp_lload (t := 22) rfl rfl ?_
      refine wp_lconst 0 (t := 23) rfl (by decide) ?_
      refine wp_lcmp (t := 24) rfl hL (by unfold zinL; omega) ?_
      refine wp_if_le (t := 25) (tgt := 58) rfl (by decide) hc (fun h41 => ?_) (fun h41 => ?_)
      · refine wp_aload_n (t := 32) rfl rfl ?_
        refine wp_getR (t := 33) (ji := 30) rfl fX10_55 rfl rfl (by omega) (by first | rfl | assumption) (by first | exact hW _ _ _ (by omega) rfl | assumption) ?_
        refine wp_iload (t := 34) rfl rfl ?_
        refine wp_iload (t := 35) rfl rfl ?_
        refine wp_iastore (t := 36) rfl (by omega) (by first | rfl | assumption) (by omega) (by omega) (by omega) (by unfold zin; omega) ?_
        refine wp_canon (fun hI1 => ?_)
        refine wp_lload (t := 37) rfl rfl ?_
        refine wp_lstore (t := 38) rfl (by decide) rfl ?_
        refine wp_iload (t := 39) rfl rfl ?_
        refine wp_iconst (t := 40) rfl ?_
        refine wp_isub (t := 41) rfl ?_
        refine wp_istore (t := 42) rfl (by decide) rfl ?_
        have hL2 := loop2 i ((i : Int) - 1)
        rw [Nat.sub_self] at hL2
        refine hL2 _ (Nat.le_refl _) rfl ?_ ?_ ?_ ?_ ?_ (fun a a0 a1 => absurd a1 (by omega)) (fun j hj => ?_) (fun j hj => ?_) (fun b b1 b2 b3 b4 b5 b6 => ?_)
        · rw [zu_ne (by decide)]; exact k1
        · rw [zu_ne (by decide)]; exact k2
        · rw [zu_ne (by decide)]; exact k3
        · rw [zu_eq]
        · rw [zu_ne (by decide)]; exact k5
        · rw [zu_ne (by decide), zu_ne (by decide), zu_ne (by decide), zu_ni (by omega), k9 131 (by decide) (by decide) (by decide) (by decide)]; exact ⟨(k7 j hj).1, (k7 j hj).2.1, (k7 j hj).2.2, rfl⟩
        · rw [zu_ne (by decide), k9 132 (by decide) (by decide) (by decide) (by decide)]
        · rw [zu_ne b5]; exact k9 b b1 b2 b3 b4
      · exact absurd (hc2.mpr h2) (by omega)
    | succ q ih =>
      intro i K x10 i0 iq k1 k2 k3 k5 k7 k9
      have hb := dq_b hx i
      have hL : zinL (dq x i) := by unfold zinL; omega
      have hc := zcmp_b (dq x i) 0
      have hc2 := zcmp_le (x := dq x i)
      have hp1 := h1 i (by omega)
      refine wp_canon (fun hI0 => ?_)
      refine wp_lload (t := 22) rfl rfl ?_
      refine wp_lconst 0 (t := 23) rfl (by decide) ?_
      refine wp_lcmp (t := 24) rfl hL (by unfold zinL; omega) ?_
      refine wp_if_le (t := 25) (tgt := 58) rfl (by decide) hc (fun h41 => ?_) (fun h41 => ?_)
      · exact absurd (hc2.mp (by omega)) (by omega)
      · refine wp_iinc (t := 26) rfl rfl (by decide) rfl ?_
        refine wp_lload (t := 27) rfl rfl ?_
        refine wp_ldc2 (10) (t := 28) rfl (wsL_law_r15_l (List.mem_of_getElem? (i := 20) rfl)) (by decide) ?_
        refine wp_ldiv (t := 29) rfl hL (by unfold zinL; omega) (by omega) ?_
        refine wp_lstore (t := 30) rfl (by decide) rfl ?_
        refine wp_goto (t := 31) (tgt := 37) rfl (by decide) ?_
        exact ih (i + 1) K x10 (by omega) (by omega) k1 k2 k3 k5 k7 k9
  refine wp_ls (ls' := [some (zR 115), some (zI k), some (zI pt), some (zI dr), some (zJ x), none, none, none, none, none, none]) rfl ?_
  refine wp_aload_n (t := 0) rfl rfl ?_
  refine wp_getI (t := 1) (ji := 25) rfl fX10_112 rfl rfl (by omega) (by first | rfl | assumption) ?_
  rw [hNe]
  refine wp_istore (t := 2) rfl (by decide) rfl ?_
  refine wp_aload_n (t := 3) rfl rfl ?_
  refine wp_getR (t := 4) (ji := 27) rfl fX10_46 rfl rfl (by omega) (by first | rfl | assumption) (by first | exact hW _ _ _ (by omega) rfl | assumption) ?_
  refine wp_iload (t := 5) rfl rfl ?_
  refine wp_iload_n (t := 6) rfl rfl ?_
  refine wp_iastore (t := 7) rfl (by omega) (by first | rfl | assumption) (by omega) (by omega) (by omega) (by first | assumption | exact hI0 _ _ | exact zin_and _ _ | (unfold zin; omega) | (unfold zin at *; omega)) ?_
  refine wp_canon (fun hI1 => ?_)
  refine wp_aload_n (t := 8) rfl rfl ?_
  refine wp_getR (t := 9) (ji := 28) rfl fX10_49 rfl rfl (by omega) (by first | rfl | assumption) (by first | exact hW _ _ _ (by omega) rfl | assumption) ?_
  refine wp_iload (t := 10) rfl rfl ?_
  refine wp_iload_n (t := 11) rfl rfl ?_
  refine wp_iastore (t := 12) rfl (by omega) (by first | rfl | assumption) (by omega) (by omega) (by omega) (by first | assumption | exact hI1 _ _ | exact hI0 _ _ | exact zin_and _ _ | (unfold zin; omega) | (unfold zin at *; omega)) ?_
  refine wp_canon (fun hI2 => ?_)
  refine wp_aload_n (t := 13) rfl rfl ?_
  refine wp_getR (t := 14) (ji := 29) rfl fX10_52 rfl rfl (by omega) (by first | rfl | assumption) (by first | exact hW _ _ _ (by omega) rfl | assumption) ?_
  refine wp_iload (t := 15) rfl rfl ?_
  refine wp_iload_n (t := 16) rfl rfl ?_
  refine wp_iastore (t := 17) rfl (by omega) (by first | rfl | assumption) (by omega) (by omega) (by omega) (by first | assumption | exact hI2 _ _ | exact hI1 _ _ | exact hI0 _ _ | exact zin_and _ _ | (unfold zin; omega) | (unfold zin at *; omega)) ?_
  refine wp_canon (fun hI3 => ?_)
  refine wp_iconst (t := 18) rfl ?_
  refine wp_istore (t := 19) rfl (by decide) rfl ?_
  refine wp_lload (t := 20) rfl rfl ?_
  refine wp_lstore (t := 21) rfl (by decide) rfl ?_
  refine loop1 m 0 _ _ (by omega) (by omega) ?_ ?_ ?_ ?_ (fun j hj => ?_) (fun b b1 b2 b3 b4 => ?_)
  · rw [zu_ne (by decide), zu_ne (by decide), zu_eq]
  · rw [zu_ne (by decide), zu_eq]
  · rw [zu_eq]
  · rw [zu_ne (by decide), zu_ne (by decide), zu_ne (by decide)]
  · rw [zu_ne (by decide), zu_ne (by decide), zu_ni (by omega), zu_ne (by decide), zu_ni (by omega), zu_ne (by decide), zu_ni (by omega), zu_ne (by decide), zu_ne (by decide)]; exact ⟨rfl, rfl, rfl⟩
  · rw [zu_ne b4, zu_ne b3, zu_ne b2]
