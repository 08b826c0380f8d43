/-! the reference's own methods: laid -/
def mLaid (I : zMem) (S : pS) : Prop := (I 115 0 = S.1.1 ∧ I 115 1 = S.1.2.1 ∧ I 115 2 = S.1.2.2.1 ∧ I 115 3 = S.1.2.2.2) ∧
  (∀ c : Int, 0 ≤ c → c < S.1.2.2.1 → (I 122 c = S.2.1 c ∧ I 122 (6 + c) = 0 ∧ I 122 (12 + c) = 0) ∧ I 116 c = S.2.2.1 c ∧ I 117 c = S.2.2.2.1 c ∧ I 118 c = S.2.2.2.2.1 c ∧ ∀ i : Int, 0 ≤ i → i < S.2.2.2.2.1 c → I 119 (6 * c + i) = S.2.2.2.2.2.1 c i) ∧
  (∀ b : Int, 0 ≤ b → b < S.1.2.2.2 → I 120 b = S.2.2.2.2.2.2.1 b ∧ I 121 b = S.2.2.2.2.2.2.2 b)
def mLayP (I : zMem) (r : Int) (I' : zMem) : Prop :=
  (¬ ((pParse (I 127) (I 115 20) 200 pS0 0).1 = -4 ∧ 1 ≤ (pParse (I 127) (I 115 20) 200 pS0 0).2.1.2.2.1) ∧ r = -2 ∧ mFr I I') ∨
  (((pParse (I 127) (I 115 20) 200 pS0 0).1 = -4 ∧ 1 ≤ (pParse (I 127) (I 115 20) 200 pS0 0).2.1.2.2.1) ∧ r = (pParse (I 127) (I 115 20) 200 pS0 0).2.1.2.2.1 ∧ mLaid I' (pParse (I 127) (I 115 20) 200 pS0 0).2 ∧ I' 115 12 = 0 ∧ I' 115 14 = 0 ∧ I' 115 16 = 0 ∧ I' 115 18 = 0 ∧ I' 115 20 = I 115 20 ∧ I' 127 = I 127 ∧ ∀ b : Nat, b < 115 → I' b = I b)
set_option maxHeartbeats 4000000 in
set_option maxRecDepth 100000 in
theorem c_X10_lay {G : zG} {d n : Nat} {I : zMem} {R : zRef} (hW : zWir n R) (hn : 143 ≤ n) (hlen : 0 ≤ I 115 20 ∧ I 115 20 ≤ 200) : MT G mX10_lay (d + 5) 0 0 [zR 115] n I R (zP1 (fun r I' R' => mLayP I r I' ∧ R' = R)) := by
  refine MT.of (by decide +kernel) tX10_lay_ok (Nat.le_of_ble_eq_true rfl) (fun hI0 => ?_)
  have hS : pGood (pParse (I 127) (I 115 20) 200 pS0 0).2 := pParse_good 200 pS0 0 pGood0
  unfold mLayP
  generalize hpr : pParse (I 127) (I 115 20) 200 pS0 0 = pr at *
  have hco := hS.2.2.1
  have hru := hS.2.2.2.1
  -- the rules copied, and on to the end; K is what the cores' taking left
  have loop : ∀ (K : zMem), pr.1 = -4 → 1 ≤ pr.2.1.2.2.1 → (K 115 0 = pr.2.1.1 ∧ K 115 1 = pr.2.1.2.1 ∧ K 115 2 = pr.2.1.2.2.1 ∧ K 115 3 = pr.2.1.2.2.2) → (∀ c : Int, 0 ≤ c → c < pr.2.1.2.2.1 → (K 122 c = pr.2.2.1 c ∧ K 122 (6 + c) = 0 ∧ K 122 (12 + c) = 0) ∧ K 116 c = pr.2.2.2.1 c ∧ K 117 c = pr.2.2.2.2.1 c ∧ K 118 c = pr.2.2.2.2.2.1 c ∧ ∀ i : Int, 0 ≤ i → i < pr.2.2.2.2.2.1 c → K 119 (6 * c + i) = pr.2.2.2.2.2.2.1 c i) → (∀ b : Int, 0 ≤ b → b < pr.2.1.2.2.2 → K 133 b = pr.2.2.2.2.2.2.2.1 b ∧ K 134 b = pr.2.2.2.2.2.2.2.2 b) → K 115 20 = I 115 20 → K 127 = I 127 → (∀ b : Nat, b < 115 → K b = I b) → ∀ (m : Nat) (b : Int) (J : zMem), 0 ≤ b → b ≤ pr.2.1.2.2.2 → (pr.2.1.2.2.2 - b).toNat = m → (∀ a : Int, 0 ≤ a → a < b → J 120 a = K 133 a ∧ J 121 a = K 134 a) → (∀ e : Nat, e ≠ 120 → e ≠ 121 → J e = K e) →
      WP G mX10_lay (d + 5) 0 0 0 0 57 [some (zR 115), some (zI b)] [] n J R (zP1 (fun r I' R' => ((¬ (pr.1 = -4 ∧ 1 ≤ pr.2.1.2.2.1) ∧ r = -2 ∧ mFr I I') ∨ ((pr.1 = -4 ∧ 1 ≤ pr.2.1.2.2.1) ∧ r = pr.2.1.2.2.1 ∧ mLaid I' pr.2 ∧ I' 115 12 = 0 ∧ I' 115 14 = 0 ∧ I' 115 16 = 0 ∧ I' 115 18 = 0 ∧ I' 115 20 = I 115 20 ∧ I' 127 = I 127 ∧ ∀ b : Nat, b < 115 → I' b = I b)) ∧ R' = R)) := by
    intro K p1 p2 k1 k2 k3 k4 k5 k6 m
    induction m with
    | zero =>
      intro b J b0 b1 bm h1 h2
      have e115 : J 115 = K 115 := h2 115 (by decide) (by decide)
      refine wp_canon (fun hI0 => ?_)
      refine wp_iload_n (t := 29) rfl rfl ?_
      refine wp_aload_n (t := 30) rfl rfl ?_
      refine wp_getI (t := 31) (ji := 3) rfl fX10_121 rfl rfl (by omega) (by first | rfl | assumption) ?_
      rw [e115, k1.2.2.2]
      refine wp_icmp_ge (t := 32) (tgt := 95) rfl (by decide) (by first | assumption | exact hI0 _ _ | exact zin_and _ _ | (unfold zin; omega) | (unfold zin at *; omega)) (by first | assumption | exact hI0 _ _ | exact zin_and _ _ | (unfold zin; omega) | (unfold zin at *; omega)) (fun h62 => ?_) (fun h62 => ?_)
      · refine wp_aload_n (t := 51) rfl rfl ?_
        refine wp_iconst (t := 52) rfl ?_
        refine wp_putI (t := 53) (ji := 12) rfl fX10_188 p10_12 rfl rfl (by omega) (by first | rfl | assumption) (by first | assumption | exact hI0 _ _ | exact zin_and _ _ | (unfold zin; omega) | (unfold zin at *; omega)) ?_
        refine wp_canon (fun hI1 => ?_)
        refine wp_aload_n (t := 54) rfl rfl ?_
        refine wp_iconst (t := 55) rfl ?_
        refine wp_putI (t := 56) (ji := 14) rfl fX10_191 p10_14 rfl rfl (by omega) (by first | rfl | assumption) (by first | assumption | exact hI1 _ _ | exact hI0 _ _ | exact zin_and _ _ | (unfold zin; omega) | (unfold zin at *; omega)) ?_
        refine wp_canon (fun hI2 => ?_)
        refine wp_aload_n (t := 57) rfl rfl ?_
        refine wp_iconst (t := 58) rfl ?_
        refine wp_putI (t := 59) (ji := 16) rfl fX10_194 p10_16 rfl rfl (by omega) (by first | rfl | assumption) (by first | assumption | exact hI2 _ _ | exact hI1 _ _ | exact hI0 _ _ | exact zin_and _ _ | (unfold zin; omega) | (unfold zin at *; omega)) ?_
        refine wp_canon (fun hI3 => ?_)
        refine wp_aload_n (t := 60) rfl rfl ?_
        refine wp_iconst (t := 61) rfl ?_
        refine wp_putI (t := 62) (ji := 18) rfl fX10_197 p10_18 rfl rfl (by omega) (by first | rfl | assumption) (by first | assumption | exact hI3 _ _ | exact hI2 _ _ | exact hI1 _ _ | exact hI0 _ _ | exact zin_and _ _ | (unfold zin; omega) | (unfold zin at *; omega)) ?_
        refine wp_canon (fun hI4 => ?_)
        refine wp_aload_n (t := 63) rfl rfl ?_
        refine wp_getI (t := 64) (ji := 2) rfl fX10_115 rfl rfl (by omega) (by first | rfl | assumption) ?_
        rw [zu_ni (by decide), zu_ni (by decide), zu_ni (by decide), zu_ni (by decide), e115, k1.2.2.1]
        refine wp_ireturn (t := 65) rfl rfl ?_
        refine ⟨_, rfl, Or.inr ⟨⟨p1, p2⟩, rfl, ⟨⟨?_, ?_, ?_, ?_⟩, fun c c0 c1 => ?_, fun a a0 a1 => ?_⟩, ?_, ?_, ?_, zu_eq, ?_, ?_, fun e e1 => ?_⟩, rfl⟩
        · rw [zu_ni (by decide), zu_ni (by decide), zu_ni (by decide), zu_ni (by decide), e115]; exact k1.1
        · rw [zu_ni (by decide), zu_ni (by decide), zu_ni (by decide), zu_ni (by decide), e115]; exact k1.2.1
        · rw [zu_ni (by decide), zu_ni (by decide), zu_ni (by decide), zu_ni (by decide), e115]; exact k1.2.2.1
        · rw [zu_ni (by decide), zu_ni (by decide), zu_ni (by decide), zu_ni (by decide), e115]; exact k1.2.2.2
        · rw [zu_ne (by decide), zu_ne (by decide), zu_ne (by decide), zu_ne (by decide), zu_ne (by decide), zu_ne (by decide), zu_ne (by decide), zu_ne (by decide), zu_ne (by decide), zu_ne (by decide), zu_ne (by decide), zu_ne (by decide), zu_ne (by decide), zu_ne (by decide), zu_ne (by decide), zu_ne (by decide), zu_ne (by decide), zu_ne (by decide), zu_ne (by decide), zu_ne (by decide), h2 122 (by decide) (by decide), h2 116 (by decide) (by decide), h2 117 (by decide) (by decide), h2 118 (by decide) (by decide), h2 119 (by decide) (by decide)]
          exact k2 c c0 c1
        · rw [zu_ne (by decide), zu_ne (by decide), zu_ne (by decide), zu_ne (by decide), zu_ne (by decide), zu_ne (by decide), zu_ne (by decide), zu_ne (by decide), (h1 a a0 (by omega)).1, (h1 a a0 (by omega)).2]
          exact k3 a a0 a1
        · rw [zu_ni (by decide), zu_ni (by decide), zu_ni (by decide), zu_eq]
        · rw [zu_ni (by decide), zu_ni (by decide), zu_eq]
        · rw [zu_ni (by decide), zu_eq]
        · rw [zu_ni (by decide), zu_ni (by decide), zu_ni (by decide), zu_ni (by decide), e115]; exact k4
        · rw [zu_ne (by decide), zu_ne (by decide), zu_ne (by decide), zu_ne (by decide), h2 127 (by decide) (by decide)]; exact k5
        · rw [zu_ne (by omega), zu_ne (by omega), zu_ne (by omega), zu_ne (by omega), h2 e (by omega) (by omega)]; exact k6 e e1
      · exact absurd h62 (by omega)
    | succ m ih =>
      intro b J b0 b1 bm h1 h2
      have e115 : J 115 = K 115 := h2 115 (by decide) (by decide)
      have e133 : J 133 = K 133 := h2 133 (by decide) (by decide)
      have e134 : J 134 = K 134 := h2 134 (by decide) (by decide)
      refine wp_canon (fun hI0 => ?_)
      refine wp_iload_n (t := 29) rfl rfl ?_
      refine wp_aload_n (t := 30) rfl rfl ?_
      refine wp_getI (t := 31) (ji := 3) rfl fX10_121 rfl rfl (by omega) (by first | rfl | assumption) ?_
      rw [e115, k1.2.2.2]
      refine wp_icmp_ge (t := 32) (tgt := 95) rfl (by decide) (by first | assumption | exact hI0 _ _ | exact zin_and _ _ | (unfold zin; omega) | (unfold zin at *; omega)) (by first | assumption | exact hI0 _ _ | exact zin_and _ _ | (unfold zin; omega) | (unfold zin at *; omega)) (fun h62 => ?_) (fun h62 => ?_)
      · exact absurd h62 (by omega)
      · refine wp_aload_n (t := 33) rfl rfl ?_
        refine wp_getR (t := 34) (ji := 8) rfl fX10_22 rfl rfl (by omega) (by first | rfl | assumption) (by first | exact hW _ _ _ (by omega) rfl | assumption) ?_
        refine wp_iload_n (t := 35) rfl rfl ?_
        refine wp_aload_n (t := 36) rfl rfl ?_
        refine wp_getR (t := 37) (ji := 32) rfl fX10_61 rfl rfl (by omega) (by first | rfl | assumption) (by first | exact hW _ _ _ (by omega) rfl | assumption) ?_
        refine wp_iload_n (t := 38) rfl rfl ?_
        refine wp_iaload (t := 39) rfl (by omega) (by first | rfl | assumption) (by omega) (by omega) (by omega) ?_
        rw [e133]
        refine wp_iastore (t := 40) rfl (by omega) (by first | rfl | assumption) (by omega) (by omega) (by omega) (by rw [← e133]; exact hI0 _ _) ?_
        refine wp_canon (fun hI1 => ?_)
        refine wp_aload_n (t := 41) rfl rfl ?_
        refine wp_getR (t := 42) (ji := 9) rfl fX10_25 rfl rfl (by omega) (by first | rfl | assumption) (by first | exact hW _ _ _ (by omega) rfl | assumption) ?_
        refine wp_iload_n (t := 43) rfl rfl ?_
        refine wp_aload_n (t := 44) rfl rfl ?_
        refine wp_getR (t := 45) (ji := 33) rfl fX10_64 rfl rfl (by omega) (by first | rfl | assumption) (by first | exact hW _ _ _ (by omega) rfl | assumption) ?_
        refine wp_iload_n (t := 46) rfl rfl ?_
        refine wp_iaload (t := 47) rfl (by omega) (by first | rfl | assumption) (by omega) (by omega) (by omega) ?_
        rw [zu_ne (by decide), e134]
        refine wp_iastore (t := 48) rfl (by omega) (by first | rfl | assumption) (by omega) (by omega) (by omega) (by rw [← e134]; exact hI0 _ _) ?_
        refine wp_canon (fun hI2 => ?_)
        refine wp_iinc (t := 49) rfl rfl (by decide) rfl ?_
        refine wp_goto (t := 50) (tgt := 57) rfl (by decide) ?_
        refine ih (b + 1) _ (by omega) (by omega) (by omega) (fun a a0 a1 => ?_) (fun e e1 e2 => by rw [zu_ne e2, zu_ne e1]; exact h2 e e1 e2)
        by_cases ea : a = b
        · rw [zu_ne (by decide), ea, zu_eq, zu_eq]; exact ⟨rfl, rfl⟩
        · rw [zu_ne (by decide), zu_ni ea, zu_ni ea, zu_ne (by decide)]; exact h1 a a0 (by omega)
  refine wp_ls (ls' := [some (zR 115), none]) rfl ?_
  refine wp_aload_n (t := 0) rfl rfl ?_
  refine wp_vi (ci := 10) (c_X10_fault (d := d) hW hn hlen) (t := 1) rfl kX10_185 rfl rfl (by omega) (by first | rfl | assumption) ⟨_, _, rfl⟩ (Nat.le_of_ble_eq_true rfl) ⟨Nat.le_refl _, Nat.le_refl _⟩ (fun r1 I1 R1 c1 => ?_)
  refine wp_canon (fun hI1 => ?_)
  obtain ⟨⟨e1, b1, m1, f1⟩, zr1⟩ := c1
  have zr1 := zr1.symm
  subst zr1
  rw [hpr] at e1 m1
  refine wp_bipush (t := 2) rfl (by decide) ?_
  refine wp_icmp_ne (t := 3) (tgt := 16) rfl (by decide) (by first | assumption | exact hI1 _ _ | exact hI0 _ _ | exact zin_and _ _ | (unfold zin; omega) | (unfold zin at *; omega)) (by first | assumption | exact hI1 _ _ | exact hI0 _ _ | exact zin_and _ _ | (unfold zin; omega) | (unfold zin at *; omega)) (fun h6 => ?_) (fun h6 => ?_)
  · refine wp_bipush (t := 7) rfl (by decide) ?_
    refine wp_ireturn (t := 8) rfl rfl ?_
    exact ⟨_, rfl, Or.inl ⟨fun q => by omega, rfl, f1⟩, rfl⟩
  · refine wp_aload_n (t := 4) rfl rfl ?_
    refine wp_getI (t := 5) (ji := 25) rfl fX10_112 rfl rfl (by omega) (by first | rfl | assumption) ?_
    refine wp_if_ne (t := 6) (tgt := 19) rfl (by decide) (by first | assumption | exact hI1 _ _ | exact hI0 _ _ | exact zin_and _ _ | (unfold zin; omega) | (unfold zin at *; omega)) (fun h13 => ?_) (fun h13 => ?_)
    · have mr := m1 (by omega)
      obtain ⟨⟨r1, r2, r3, r4⟩, r5, r6⟩ := mr
      refine wp_aload_n (t := 9) rfl rfl ?_
      refine wp_aload_n (t := 10) rfl rfl ?_
      refine wp_getI (t := 11) (ji := 23) rfl fX10_169 rfl rfl (by omega) (by first | rfl | assumption) ?_
      refine wp_putI (t := 12) (ji := 0) rfl fX10_91 p10_0 rfl rfl (by omega) (by first | rfl | assumption) (by first | assumption | exact hI1 _ _ | exact hI0 _ _ | exact zin_and _ _ | (unfold zin; omega) | (unfold zin at *; omega)) ?_
      refine wp_canon (fun hI2 => ?_)
      refine wp_aload_n (t := 13) rfl rfl ?_
      refine wp_aload_n (t := 14) rfl rfl ?_
      refine wp_getI (t := 15) (ji := 24) rfl fX10_172 rfl rfl (by omega) (by first | rfl | assumption) ?_
      rw [zu_ni (by decide)]
      refine wp_putI (t := 16) (ji := 1) rfl fX10_95 p10_1 rfl rfl (by omega) (by first | rfl | assumption) (by first | assumption | exact hI2 _ _ | exact hI1 _ _ | exact hI0 _ _ | exact zin_and _ _ | (unfold zin; omega) | (unfold zin at *; omega)) ?_
      refine wp_canon (fun hI3 => ?_)
      refine wp_aload_n (t := 17) rfl rfl ?_
      refine wp_aload_n (t := 18) rfl rfl ?_
      refine wp_getI (t := 19) (ji := 25) rfl fX10_112 rfl rfl (by omega) (by first | rfl | assumption) ?_
      rw [zu_ni (by decide), zu_ni (by decide)]
      refine wp_putI (t := 20) (ji := 2) rfl fX10_115 p10_2 rfl rfl (by omega) (by first | rfl | assumption) (by first | assumption | exact hI3 _ _ | exact hI2 _ _ | exact hI1 _ _ | exact hI0 _ _ | exact zin_and _ _ | (unfold zin; omega) | (unfold zin at *; omega)) ?_
      refine wp_canon (fun hI4 => ?_)
      refine wp_aload_n (t := 21) rfl rfl ?_
      refine wp_aload_n (t := 22) rfl rfl ?_
      refine wp_getI (t := 23) (ji := 26) rfl fX10_166 rfl rfl (by omega) (by first | rfl | assumption) ?_
      rw [zu_ni (by decide), zu_ni (by decide), zu_ni (by decide)]
      refine wp_putI (t := 24) (ji := 3) rfl fX10_121 p10_3 rfl rfl (by omega) (by first | rfl | assumption) (by first | assumption | exact hI4 _ _ | exact hI3 _ _ | exact hI2 _ _ | exact hI1 _ _ | exact hI0 _ _ | exact zin_and _ _ | (unfold zin; omega) | (unfold zin at *; omega)) ?_
      refine wp_canon (fun hI5 => ?_)
      refine wp_aload_n (t := 25) rfl rfl ?_
      refine wp_vv (ci := 10) (c_X10_takeCores (d := d + 4) hW hn (by rw [zu_ni (by decide), zu_eq]; omega)) (t := 26) rfl kX10_118 rfl rfl (by omega) (by first | rfl | assumption) ⟨_, _, rfl⟩ (Nat.le_of_ble_eq_true rfl) ⟨Nat.le_refl _, Nat.le_refl _⟩ (fun I52 R52 c52 => ?_)
      refine wp_canon (fun hI6 => ?_)
      obtain ⟨t52, zr52⟩ := c52
      have zr52 := zr52.symm
      subst zr52
      rw [zu_ni (by decide), zu_eq] at t52
      refine wp_iconst (t := 27) rfl ?_
      refine wp_istore_n (t := 28) rfl (by decide) rfl ?_
      refine loop I52 (by omega) (by omega) ⟨?_, ?_, ?_, ?_⟩ (fun c c0 c1 => ?_) (fun b b0 b1 => ?_) ?_ ?_ (fun b b1 => ?_) _ 0 I52 (by omega) (by omega) rfl (fun a a0 a1 => absurd a1 (by omega)) (fun _ _ _ => rfl)
      · rw [t52.2 115 (by decide) (by decide) (by decide) (by decide) (by decide), zu_ni (by decide), zu_ni (by decide), zu_ni (by decide), zu_eq]; exact r1
      · rw [t52.2 115 (by decide) (by decide) (by decide) (by decide) (by decide), zu_ni (by decide), zu_ni (by decide), zu_eq]; exact r2
      · rw [t52.2 115 (by decide) (by decide) (by decide) (by decide) (by decide), zu_ni (by decide), zu_eq]; exact r3
      · rw [t52.2 115 (by decide) (by decide) (by decide) (by decide) (by decide), zu_eq]; exact r4
      · have q := t52.1 c c0 (by omega)
        have g := r5 c c0 c1
        obtain ⟨⟨q1, q2, q3, q4, q5, q6⟩, q7⟩ := q
        rw [zu_ne (by decide), zu_ne (by decide), zu_ne (by decide), zu_ne (by decide)] at q1 q4 q5 q6
        have s := hS.2.2.2.2.1 c c0 c1
        refine ⟨⟨q1.trans g.1, q2, q3⟩, q4.trans g.2.1, q5.trans g.2.2.1, q6.trans g.2.2.2.1, fun i i0 i1 => ?_⟩
        rw [q7 i i0 (by omega), zu_ne (by decide), zu_ne (by decide), zu_ne (by decide), zu_ne (by decide)]
        exact g.2.2.2.2 i i0 i1
      · rw [t52.2 133 (by decide) (by decide) (by decide) (by decide) (by decide), t52.2 134 (by decide) (by decide) (by decide) (by decide) (by decide), zu_ne (by decide), zu_ne (by decide), zu_ne (by decide), zu_ne (by decide), zu_ne (by decide), zu_ne (by decide), zu_ne (by decide), zu_ne (by decide)]
        exact r6 b b0 b1
      · rw [t52.2 115 (by decide) (by decide) (by decide) (by decide) (by decide), zu_ni (by decide), zu_ni (by decide), zu_ni (by decide), zu_ni (by decide)]; exact f1.2 20 (by omega)
      · rw [t52.2 127 (by decide) (by decide) (by decide) (by decide) (by decide), zu_ne (by decide), zu_ne (by decide), zu_ne (by decide), zu_ne (by decide)]; exact f1.1 127 (by decide) (by omega)
      · rw [t52.2 b (by omega) (by omega) (by omega) (by omega) (by omega), zu_ne (by omega), zu_ne (by omega), zu_ne (by omega), zu_ne (by omega)]; exact f1.1 b (by omega) (by omega)
    · refine wp_bipush (t := 7) rfl (by decide) ?_
      refine wp_ireturn (t := 8) rfl rfl ?_
      exact ⟨_, rfl, Or.inl ⟨fun q => by have := (m1 (by omega)).1.2.2.1; omega, rfl, f1⟩, rfl⟩
