/-! the class lays a text -/
/-- what laying a text does in the class -/
def cLayP (I : zMem) (r : Int) (I' : zMem) : Prop :=
  (¬ ((pParse (I 2) (I 1 1) 200 pS0 0).1 = -4 ∧ 1 ≤ (pParse (I 2) (I 1 1) 200 pS0 0).2.1.2.2.1) ∧ r = -2 ∧ cFr I I' 4) ∨
  (((pParse (I 2) (I 1 1) 200 pS0 0).1 = -4 ∧ 1 ≤ (pParse (I 2) (I 1 1) 200 pS0 0).2.1.2.2.1) ∧ r = (pParse (I 2) (I 1 1) 200 pS0 0).2.1.2.2.1 ∧ cRd I' 34 (pParse (I 2) (I 1 1) 200 pS0 0).2 ∧ zLaid I' ∧
    (∀ c : Int, 0 ≤ c → c < (pParse (I 2) (I 1 1) 200 pS0 0).2.1.2.2.1 → I' 65 c = (pParse (I 2) (I 1 1) 200 pS0 0).2.2.1 c) ∧
    (∀ c : Int, 0 ≤ c → c < 6 → I' 66 c = 0 ∧ I' 67 c = 0 ∧ I' 68 c = 0 ∧ (0 ≤ I' 69 c ∧ I' 69 c < 64) ∧ ∀ a : Int, 0 ≤ a → a < 6 → (zbt (I' 69 c) a = true ↔ ∃ b : Int, 0 ≤ b ∧ b < I' 34 3 ∧ b ≠ -4 ∧ I' 46 b = a ∧ I' 47 b = c)) ∧
    (∀ l : Int, 0 ≤ l → l < 9 → I' 85 l = 0) ∧ I' 95 1 = 0 ∧ I' 105 1 = 0 ∧ I' 109 1 = 0 ∧ I' 111 4 = 0 ∧ I' 1 = I 1 ∧ I' 2 = I 2 ∧ ∀ b : Nat, 115 ≤ b → I' b = I b)
theorem cRd_le {I : zMem} {S : pS} (hr : cRd I 34 S) (hS : pGood S) : ∀ c : Int, 0 ≤ c → c < I 34 2 → zLe I c := fun c c0 c1 => by
  obtain ⟨⟨h1, h2, h3, h4⟩, h5, h6⟩ := hr
  rw [h3] at c1
  have g := h5 c c0 c1
  have s := hS.2.2.2.2.1 c c0 c1
  have e38 : I 38 c = S.2.2.2.2.1 c := g.2.2.2.1
  refine ⟨by rw [e38]; exact s.2.2.2.1, fun i i0 i1 => ?_⟩
  rw [e38] at i1
  have e40 : I (34 + 6 + c.toNat) i = S.2.2.2.2.2.1 c i := g.2.2.2.2 i i0 i1
  have e40 : I (40 + c.toNat) i = S.2.2.2.2.2.1 c i := e40
  rw [e40]
  exact s.2.2.2.2 i i0 i1
set_option maxHeartbeats 4000000 in
set_option maxRecDepth 100000 in
theorem c_X9_layText {G : zG} {d n : Nat} {I : zMem} {R : zRef} (hW : zWir n R) (hn : 115 ≤ n) (hlen : 0 ≤ I 1 1 ∧ I 1 1 ≤ 200) : MT G mX9_layText (d + 5) 0 0 [zR 0] n I R (zP1 (fun r I' R' => cLayP I r I' ∧ R' = R)) := by
  refine MT.of (by decide +kernel) tX9_layText_ok (Nat.le_of_ble_eq_true rfl) (fun hI0 => ?_)
  have hS : pGood (pParse (I 2) (I 1 1) 200 pS0 0).2 := pParse_good 200 pS0 0 pGood0
  unfold cLayP
  generalize hpr : pParse (I 2) (I 1 1) 200 pS0 0 = pr at *
  have hco := hS.2.2.1
  have hli := hS.1
  have hru := hS.2.2.2.1
  -- the kinds copied, and on to the end
  have loop : ∀ (m : Nat) (c : Int) (J : zMem), pr.1 = -4 → 1 ≤ pr.2.1.2.2.1 → 0 ≤ c → c ≤ pr.2.1.2.2.1 → (pr.2.1.2.2.1 - c).toNat = m → cRd J 34 pr.2 → zLaid J → (∀ a : Int, 0 ≤ a → a < c → J 65 a = pr.2.2.1 a) → (∀ c : Int, 0 ≤ c → c < 6 → J 66 c = 0 ∧ J 67 c = 0 ∧ J 68 c = 0 ∧ (0 ≤ J 69 c ∧ J 69 c < 64) ∧ ∀ a : Int, 0 ≤ a → a < 6 → (zbt (J 69 c) a = true ↔ ∃ b : Int, 0 ≤ b ∧ b < J 34 3 ∧ b ≠ -4 ∧ J 46 b = a ∧ J 47 b = c)) → J 1 = I 1 → J 2 = I 2 → (∀ b : Nat, 115 ≤ b → J b = I b) →
      WP G mX9_layText (d + 5) 0 0 0 0 59 [some (zR 0), some (zI c)] [] n J R (zP1 (fun r I' R' => ((¬ (pr.1 = -4 ∧ 1 ≤ pr.2.1.2.2.1) ∧ r = -2 ∧ cFr I I' 4) ∨ ((pr.1 = -4 ∧ 1 ≤ pr.2.1.2.2.1) ∧ r = pr.2.1.2.2.1 ∧ cRd I' 34 pr.2 ∧ zLaid I' ∧ (∀ c : Int, 0 ≤ c → c < pr.2.1.2.2.1 → I' 65 c = pr.2.2.1 c) ∧ (∀ c : Int, 0 ≤ c → c < 6 → I' 66 c = 0 ∧ I' 67 c = 0 ∧ I' 68 c = 0 ∧ (0 ≤ I' 69 c ∧ I' 69 c < 64) ∧ ∀ a : Int, 0 ≤ a → a < 6 → (zbt (I' 69 c) a = true ↔ ∃ b : Int, 0 ≤ b ∧ b < I' 34 3 ∧ b ≠ -4 ∧ I' 46 b = a ∧ I' 47 b = c)) ∧ (∀ l : Int, 0 ≤ l → l < 9 → I' 85 l = 0) ∧ I' 95 1 = 0 ∧ I' 105 1 = 0 ∧ I' 109 1 = 0 ∧ I' 111 4 = 0 ∧ I' 1 = I 1 ∧ I' 2 = I 2 ∧ ∀ b : Nat, 115 ≤ b → I' b = I b)) ∧ R' = R)) := by
    intro m
    induction m with
    | zero =>
      intro c J hp1 hp2 c0 c1 cm hr hla hk hst h1 h2 h3
      have e2 : J 34 2 = pr.2.1.2.2.1 := hr.1.2.2.1
      refine wp_canon (fun hI0 => ?_)
      refine wp_iload_n (t := 28) rfl rfl ?_
      refine wp_aload_n (t := 29) rfl rfl ?_
      refine wp_getR (t := 30) (ji := 3) rfl fX9_32 rfl rfl (by omega) (by first | rfl | assumption) (by first | exact hW _ _ _ (by omega) rfl | assumption) ?_
      refine wp_getI (t := 31) (ji := 2) rfl fX9_194 rfl rfl (by omega) (by first | rfl | assumption) ?_
      rw [e2]
      refine wp_icmp_ge (t := 32) (tgt := 94) rfl (by decide) (by first | assumption | exact hI0 _ _ | exact zin_and _ _ | (unfold zin; omega) | (unfold zin at *; omega)) (by first | assumption | exact hI0 _ _ | exact zin_and _ _ | (unfold zin; omega) | (unfold zin at *; omega)) (fun h67 => ?_) (fun h67 => ?_)
      · refine wp_aload_n (t := 45) rfl rfl ?_
        refine wp_getR (t := 46) (ji := 6) rfl fX9_54 rfl rfl (by omega) (by first | rfl | assumption) (by first | exact hW _ _ _ (by omega) rfl | assumption) ?_
        refine wp_vv (ci := 5) (c_X5_forgetAll (d := d + 4) hW hn) (t := 47) rfl kX9_277 rfl rfl (by omega) (by first | rfl | assumption) ⟨_, _, rfl⟩ (Nat.le_of_ble_eq_true rfl) ⟨Nat.le_refl _, Nat.le_refl _⟩ (fun I98 R98 c98 => ?_)
        refine wp_canon (fun hI1 => ?_)
        obtain ⟨⟨f98, z98⟩, zr98⟩ := c98
        have zr98 := zr98.symm
        subst zr98
        refine wp_aload_n (t := 48) rfl rfl ?_
        refine wp_getR (t := 49) (ji := 8) rfl fX9_67 rfl rfl (by omega) (by first | rfl | assumption) (by first | exact hW _ _ _ (by omega) rfl | assumption) ?_
        refine wp_vv (ci := 6) (c_X6_clear (o := 95) (m := 8) (d := d + 4) (Or.inl ⟨rfl, rfl⟩) hn) (t := 50) rfl kX9_259 rfl rfl (by omega) (by first | rfl | assumption) ⟨_, _, rfl⟩ (Nat.le_of_ble_eq_true rfl) ⟨Nat.le_refl _, Nat.le_refl _⟩ (fun I105 R105 c105 => ?_)
        refine wp_canon (fun hI2 => ?_)
        obtain ⟨zi105, zr105⟩ := c105
        have zr105 := zr105.symm
        subst zr105
        subst zi105
        refine wp_aload_n (t := 51) rfl rfl ?_
        refine wp_getR (t := 52) (ji := 9) rfl fX9_71 rfl rfl (by omega) (by first | rfl | assumption) (by first | exact hW _ _ _ (by omega) rfl | assumption) ?_
        refine wp_vv (ci := 6) (c_X6_clear (o := 105) (m := 2) (d := d + 4) (Or.inr ⟨rfl, rfl⟩) hn) (t := 53) rfl kX9_259 rfl rfl (by omega) (by first | rfl | assumption) ⟨_, _, rfl⟩ (Nat.le_of_ble_eq_true rfl) ⟨Nat.le_refl _, Nat.le_refl _⟩ (fun I112 R112 c112 => ?_)
        refine wp_canon (fun hI3 => ?_)
        obtain ⟨zi112, zr112⟩ := c112
        have zr112 := zr112.symm
        subst zr112
        subst zi112
        refine wp_aload_n (t := 54) rfl rfl ?_
        refine wp_getR (t := 55) (ji := 10) rfl fX9_77 rfl rfl (by omega) (by first | rfl | assumption) (by first | exact hW _ _ _ (by omega) rfl | assumption) ?_
        refine wp_vv (ci := 1) (c_X1_clear (d := d + 4) hn) (t := 56) rfl kX9_280 rfl rfl (by omega) (by first | rfl | assumption) ⟨_, _, rfl⟩ (Nat.le_of_ble_eq_true rfl) ⟨Nat.le_refl _, Nat.le_refl _⟩ (fun I119 R119 c119 => ?_)
        refine wp_canon (fun hI4 => ?_)
        obtain ⟨zi119, zr119⟩ := c119
        have zr119 := zr119.symm
        subst zr119
        subst zi119
        refine wp_aload_n (t := 57) rfl rfl ?_
        refine wp_getR (t := 58) (ji := 11) rfl fX9_84 rfl rfl (by omega) (by first | rfl | assumption) (by first | exact hW _ _ _ (by omega) rfl | assumption) ?_
        refine wp_vv (ci := 7) (c_X7_clear (d := d + 4) hn) (t := 59) rfl kX9_255 rfl rfl (by omega) (by first | rfl | assumption) ⟨_, _, rfl⟩ (Nat.le_of_ble_eq_true rfl) ⟨Nat.le_refl _, Nat.le_refl _⟩ (fun I126 R126 c126 => ?_)
        refine wp_canon (fun hI5 => ?_)
        obtain ⟨zi126, zr126⟩ := c126
        have zr126 := zr126.symm
        subst zr126
        have nf : ∀ b : Nat, b ≠ 85 → b ≠ 95 → b ≠ 105 → b ≠ 109 → b ≠ 111 → I126 b = J b := fun b b1 b2 b3 b4 b5 => by rw [zi126, zu_ne b5, zu_ne b4, zu_ne b3, zu_ne b2, f98 b b1]
        refine wp_aload_n (t := 60) rfl rfl ?_
        refine wp_getR (t := 61) (ji := 3) rfl fX9_32 rfl rfl (by omega) (by first | rfl | assumption) (by first | exact hW _ _ _ (by omega) rfl | assumption) ?_
        refine wp_getI (t := 62) (ji := 2) rfl fX9_194 rfl rfl (by omega) (by first | rfl | assumption) ?_
        rw [nf 34 (by decide) (by decide) (by decide) (by decide) (by decide), e2]
        refine wp_ireturn (t := 63) rfl rfl ?_
        refine ⟨_, rfl, Or.inr ⟨⟨hp1, hp2⟩, rfl, cRd_ext (fun b b1 b2 => nf b (by omega) (by omega) (by omega) (by omega) (by omega)) hS hr, ?_, fun a a0 a1 => ?_, fun a a0 a1 => ?_, fun l l0 l1 => ?_, ?_, ?_, ?_, ?_, ?_, ?_, fun b hb => ?_⟩, rfl⟩
        · intro a w a0 a1 w0 w1
          rw [nf 34 (by decide) (by decide) (by decide) (by decide) (by decide)] at a1 w1
          have a6 : a < 6 := by omega
          rw [nf (49 + a.toNat) (by omega) (by omega) (by omega) (by omega) (by omega), nf (56 + a.toNat) (by omega) (by omega) (by omega) (by omega) (by omega), nf (40 + a.toNat) (by omega) (by omega) (by omega) (by omega) (by omega), nf 38 (by decide) (by decide) (by decide) (by decide) (by decide)]
          exact hla a w a0 a1 w0 w1
        · rw [nf 65 (by decide) (by decide) (by decide) (by decide) (by decide)]
          exact hk a a0 (by omega)
        · rw [nf 66 (by decide) (by decide) (by decide) (by decide) (by decide), nf 67 (by decide) (by decide) (by decide) (by decide) (by decide), nf 68 (by decide) (by decide) (by decide) (by decide) (by decide), nf 69 (by decide) (by decide) (by decide) (by decide) (by decide), nf 34 (by decide) (by decide) (by decide) (by decide) (by decide), nf 46 (by decide) (by decide) (by decide) (by decide) (by decide), nf 47 (by decide) (by decide) (by decide) (by decide) (by decide)]
          exact hst a a0 a1
        · rw [zi126, zu_ne (by decide), zu_ne (by decide), zu_ne (by decide), zu_ne (by decide)]
          exact z98 l l0 l1
        · rw [zi126, zu_ne (by decide), zu_ne (by decide), zu_ne (by decide), zu_eq]
        · rw [zi126, zu_ne (by decide), zu_ne (by decide), zu_eq]
        · rw [zi126, zu_ne (by decide), zu_eq]
        · rw [zi126, zu_eq]
        · rw [nf 1 (by decide) (by decide) (by decide) (by decide) (by decide)]
          exact h1
        · rw [nf 2 (by decide) (by decide) (by decide) (by decide) (by decide)]
          exact h2
        · rw [nf b (by omega) (by omega) (by omega) (by omega) (by omega)]
          exact h3 b hb
      · exact absurd h67 (by omega)
    | succ m ih =>
      intro c J hp1 hp2 c0 c1 cm hr hla hk hst h1 h2 h3
      have e2 : J 34 2 = pr.2.1.2.2.1 := hr.1.2.2.1
      have e35 : J 35 c = pr.2.2.1 c := (hr.2.1 c c0 (by omega)).1
      refine wp_canon (fun hI0 => ?_)
      refine wp_iload_n (t := 28) rfl rfl ?_
      refine wp_aload_n (t := 29) rfl rfl ?_
      refine wp_getR (t := 30) (ji := 3) rfl fX9_32 rfl rfl (by omega) (by first | rfl | assumption) (by first | exact hW _ _ _ (by omega) rfl | assumption) ?_
      refine wp_getI (t := 31) (ji := 2) rfl fX9_194 rfl rfl (by omega) (by first | rfl | assumption) ?_
      rw [e2]
      refine wp_icmp_ge (t := 32) (tgt := 94) rfl (by decide) (by first | assumption | exact hI0 _ _ | exact zin_and _ _ | (unfold zin; omega) | (unfold zin at *; omega)) (by first | assumption | exact hI0 _ _ | exact zin_and _ _ | (unfold zin; omega) | (unfold zin at *; omega)) (fun h67 => ?_) (fun h67 => ?_)
      · exact absurd h67 (by omega)
      · refine wp_aload_n (t := 33) rfl rfl ?_
        refine wp_getR (t := 34) (ji := 4) rfl fX9_40 rfl rfl (by omega) (by first | rfl | assumption) (by first | exact hW _ _ _ (by omega) rfl | assumption) ?_
        refine wp_getR (t := 35) (ji := 1) rfl fX9_120 rfl rfl (by omega) (by first | rfl | assumption) (by first | exact hW _ _ _ (by omega) rfl | assumption) ?_
        refine wp_iload_n (t := 36) rfl rfl ?_
        refine wp_aload_n (t := 37) rfl rfl ?_
        refine wp_getR (t := 38) (ji := 3) rfl fX9_32 rfl rfl (by omega) (by first | rfl | assumption) (by first | exact hW _ _ _ (by omega) rfl | assumption) ?_
        refine wp_getR (t := 39) (ji := 4) rfl fX9_276 rfl rfl (by omega) (by first | rfl | assumption) (by first | exact hW _ _ _ (by omega) rfl | assumption) ?_
        refine wp_iload_n (t := 40) rfl rfl ?_
        refine wp_iaload (t := 41) rfl (by omega) (by first | rfl | assumption) (by omega) (by omega) (by omega) ?_
        refine wp_iastore (t := 42) rfl (by omega) (by first | rfl | assumption) (by omega) (by omega) (by omega) (by first | assumption | exact hI0 _ _ | exact zin_and _ _ | (unfold zin; omega) | (unfold zin at *; omega)) ?_
        refine wp_canon (fun hI1 => ?_)
        refine wp_iinc (t := 43) rfl rfl (by decide) rfl ?_
        refine wp_goto (t := 44) (tgt := 59) rfl (by decide) ?_
        refine ih (c + 1) _ hp1 hp2 (by omega) (by omega) (by omega) (cRd_ext (fun b b1 b2 => zu_ne (by omega)) hS hr) ?_ (fun a a0 a1 => ?_) (fun a a0 a1 => ?_) (by rw [zu_ne (by decide)]; exact h1) (by rw [zu_ne (by decide)]; exact h2) (fun b hb => by rw [zu_ne (by omega)]; exact h3 b hb)
        · intro a w a0 a1 w0 w1
          rw [zu_ne (b := 34) (by decide)] at a1 w1
          have a6 : a < 6 := by omega
          rw [zu_ne (b := 49 + a.toNat) (by omega), zu_ne (b := 56 + a.toNat) (by omega), zu_ne (b := 40 + a.toNat) (by omega), zu_ne (b := 38) (by decide)]
          exact hla a w a0 a1 w0 w1
        · by_cases e : a = c
          · rw [e, zu_eq]
            exact e35
          · rw [zu_ni e]
            exact hk a a0 (by omega)
        · rw [zu_ne (b := 66) (by decide), zu_ne (b := 67) (by decide), zu_ne (b := 68) (by decide), zu_ne (b := 69) (by decide), zu_ne (b := 34) (by decide), zu_ne (b := 46) (by decide), zu_ne (b := 47) (by decide)]
          exact hst a a0 a1
  refine wp_ls (ls' := [some (zR 0), none]) rfl ?_
  refine wp_aload_n (t := 0) rfl rfl ?_
  refine wp_getR (t := 1) (ji := 1) rfl fX9_21 rfl rfl (by omega) (by first | rfl | assumption) (by first | exact hW _ _ _ (by omega) rfl | assumption) ?_
  refine wp_aload_n (t := 2) rfl rfl ?_
  refine wp_getR (t := 3) (ji := 2) rfl fX9_28 rfl rfl (by omega) (by first | rfl | assumption) (by first | exact hW _ _ _ (by omega) rfl | assumption) ?_
  refine wp_vi (ci := 4) (c_X4_firstFault (d := d) (Or.inl rfl) hW hn hlen) (t := 4) rfl kX9_112 rfl rfl (by omega) (by first | rfl | assumption) ⟨_, _, rfl⟩ (Nat.le_of_ble_eq_true rfl) ⟨Nat.le_refl _, Nat.le_refl _⟩ (fun r8 I8 R8 c8 => ?_)
  refine wp_canon (fun hI1 => ?_)
  obtain ⟨⟨e8, b8, q8, f8⟩, zr8⟩ := c8
  have zr8 := zr8.symm
  subst zr8
  rw [hpr] at e8 q8
  have y1 : I8 1 = I 1 := f8 1 (by decide) (by decide)
  have y2 : I8 2 = I 2 := f8 2 (by decide) (by decide)
  refine wp_bipush (t := 5) rfl (by decide) ?_
  refine wp_icmp_ne (t := 6) (tgt := 26) rfl (by decide) (by first | assumption | exact hI1 _ _ | exact hI0 _ _ | exact zin_and _ _ | (unfold zin; omega) | (unfold zin at *; omega)) (by first | assumption | exact hI1 _ _ | exact hI0 _ _ | exact zin_and _ _ | (unfold zin; omega) | (unfold zin at *; omega)) (fun h13 => ?_) (fun h13 => ?_)
  · refine wp_bipush (t := 11) rfl (by decide) ?_
    refine wp_ireturn (t := 12) rfl rfl ?_
    exact ⟨_, rfl, Or.inl ⟨fun q => by omega, rfl, f8⟩, rfl⟩
  · refine wp_aload_n (t := 7) rfl rfl ?_
    refine wp_getR (t := 8) (ji := 2) rfl fX9_28 rfl rfl (by omega) (by first | rfl | assumption) (by first | exact hW _ _ _ (by omega) rfl | assumption) ?_
    refine wp_getI (t := 9) (ji := 2) rfl fX9_194 rfl rfl (by omega) (by first | rfl | assumption) ?_
    refine wp_if_ne (t := 10) (tgt := 29) rfl (by decide) (by first | assumption | exact hI1 _ _ | exact hI0 _ _ | exact zin_and _ _ | (unfold zin; omega) | (unfold zin at *; omega)) (fun h23 => ?_) (fun h23 => ?_)
    · have r8e : r8 = -4 := by omega
      have cd := q8 r8e
      have n1 : 1 ≤ pr.2.1.2.2.1 := by have := cd.1.2.2.1; omega
      refine wp_aload_n (t := 13) rfl rfl ?_
      refine wp_getR (t := 14) (ji := 1) rfl fX9_21 rfl rfl (by omega) (by first | rfl | assumption) (by first | exact hW _ _ _ (by omega) rfl | assumption) ?_
      refine wp_aload_n (t := 15) rfl rfl ?_
      refine wp_getR (t := 16) (ji := 3) rfl fX9_32 rfl rfl (by omega) (by first | rfl | assumption) (by first | exact hW _ _ _ (by omega) rfl | assumption) ?_
      refine wp_vi (ci := 4) (c_X4_firstFault (d := d) (Or.inr rfl) hW hn (by rw [y1]; exact hlen)) (t := 17) rfl kX9_112 rfl rfl (by omega) (by first | rfl | assumption) ⟨_, _, rfl⟩ (Nat.le_of_ble_eq_true rfl) ⟨Nat.le_refl _, Nat.le_refl _⟩ (fun r37 I37 R37 c37 => ?_)
      refine wp_canon (fun hI2 => ?_)
      obtain ⟨⟨e37, b37, q37, f37⟩, zr37⟩ := c37
      have zr37 := zr37.symm
      subst zr37
      rw [y1, y2, hpr] at e37 q37
      have c37 := q37 (by omega)
      have g2 := c37.1.2.2.1
      have g0 := c37.1.1
      have g3 := c37.1.2.2.2
      refine wp_pop (t := 18) rfl rfl ?_
      refine wp_aload_n (t := 19) rfl rfl ?_
      refine wp_getR (t := 20) (ji := 3) rfl fX9_32 rfl rfl (by omega) (by first | rfl | assumption) (by first | exact hW _ _ _ (by omega) rfl | assumption) ?_
      refine wp_vv (ci := 2) (c_X2_layChains (d := d + 2) hW hn (by rw [g2]; exact hco) (by rw [g0]; exact hli) (cRd_le c37 hS)) (t := 21) rfl kX9_270 rfl rfl (by omega) (by first | rfl | assumption) ⟨_, _, rfl⟩ (Nat.le_of_ble_eq_true rfl) ⟨Nat.le_refl _, Nat.le_refl _⟩ (fun I45 R45 c45 => ?_)
      refine wp_canon (fun hI3 => ?_)
      obtain ⟨⟨f45, la45⟩, zr45⟩ := c45
      have zr45 := zr45.symm
      subst zr45
      have c45 : cRd I45 34 pr.2 := cRd_ext (fun b b1 b2 => f45 b (Or.inl (by omega))) hS c37
      have g45 := c45.1.2.2.2
      have hrl : ∀ b : Int, 0 ≤ b → b < I45 34 3 → 0 ≤ I45 46 b ∧ I45 46 b < 6 ∧ 0 ≤ I45 47 b ∧ I45 47 b < 6 := fun b b0 b1 => by
        rw [g45] at b1
        have q := c45.2.2 b b0 b1
        have s := hS.2.2.2.2.2 b b0 b1
        have qa : I45 46 b = pr.2.2.2.2.2.2.2.1 b := q.1
        have qb : I45 47 b = pr.2.2.2.2.2.2.2.2 b := q.2
        omega
      refine wp_aload_n (t := 22) rfl rfl ?_
      refine wp_getR (t := 23) (ji := 4) rfl fX9_40 rfl rfl (by omega) (by first | rfl | assumption) (by first | exact hW _ _ _ (by omega) rfl | assumption) ?_
      refine wp_bipush (t := 24) rfl (by decide) ?_
      refine wp_vv (ci := 3) (c_X3_startOver (p := 64) (lo := -4) (d := d + 3) (Or.inl rfl) hW hn (by rw [g45]; exact hru) hrl (by unfold zin; omega)) (t := 25) rfl kX9_273 rfl rfl (by omega) (by first | rfl | assumption) ⟨_, _, rfl⟩ (Nat.le_of_ble_eq_true rfl) ⟨Nat.le_refl _, Nat.le_refl _⟩ (fun I54 R54 c54 => ?_)
      refine wp_canon (fun hI4 => ?_)
      obtain ⟨⟨f54, s54⟩, zr54⟩ := c54
      have zr54 := zr54.symm
      subst zr54
      refine wp_iconst (t := 26) rfl ?_
      refine wp_istore_n (t := 27) rfl (by decide) rfl ?_
      refine loop _ 0 I54 (by omega) n1 (by omega) (by omega) rfl (cRd_ext (fun b b1 b2 => f54 b (Or.inl (by omega))) hS c45) ?_ (fun a a0 a1 => absurd a1 (by omega)) (fun a a0 a1 => ?_) ?_ ?_ (fun b hb => ?_)
      · intro a w a0 a1 w0 w1
        rw [f54 34 (Or.inl (by decide))] at a1 w1
        have g9 := c45.1.2.2.1
        have a6 : a < 6 := by omega
        rw [f54 (49 + a.toNat) (Or.inl (by omega)), f54 (56 + a.toNat) (Or.inl (by omega)), f54 (40 + a.toNat) (Or.inl (by omega)), f54 38 (Or.inl (by decide))]
        exact la45 a w a0 a1 w0 w1
      · rw [f54 34 (Or.inl (by decide)), f54 46 (Or.inl (by decide)), f54 47 (Or.inl (by decide))]
        exact s54 a a0 a1
      · rw [f54 1 (Or.inl (by decide)), f45 1 (Or.inl (by decide)), f37 1 (by decide) (by decide)]
        exact y1
      · rw [f54 2 (Or.inl (by decide)), f45 2 (Or.inl (by decide)), f37 2 (by decide) (by decide)]
        exact y2
      · rw [f54 b (Or.inr (by omega)), f45 b (Or.inr (by omega)), f37 b (by omega) (by omega)]
        exact f8 b (by omega) (by omega)
    · refine wp_bipush (t := 11) rfl (by decide) ?_
      refine wp_ireturn (t := 12) rfl rfl ?_
      refine ⟨_, rfl, Or.inl ⟨fun q => ?_, rfl, f8⟩, rfl⟩
      have := (q8 (by omega)).1.2.2.1
      omega
set_option maxHeartbeats 4000000 in
set_option maxRecDepth 100000 in
theorem c_X9_lay {G : zG} {d n : Nat} {I : zMem} {R : zRef} (hW : zWir n R) (hn : 115 ≤ n) (hlen : 0 ≤ I 1 1 ∧ I 1 1 ≤ 200) : MT G mX9_lay (d + 6) 0 0 [zR 0] n I R (zP1 (fun r I' R' => cLayP I r I' ∧ R' = R)) := by
  refine MT.of (by decide +kernel) tX9_lay_ok (Nat.le_of_ble_eq_true rfl) (fun hI0 => ?_)
  refine wp_ls (ls' := [some (zR 0)]) rfl ?_
  refine wp_aload_n (t := 0) rfl rfl ?_
  refine wp_vi (ci := 9) (c_X9_layText (d := d) hW hn hlen) (t := 1) rfl kX9_103 rfl rfl (by omega) (by first | rfl | assumption) ⟨_, _, rfl⟩ (Nat.le_of_ble_eq_true rfl) ⟨Nat.le_refl _, Nat.le_refl _⟩ (fun r1 I1 R1 c1 => ?_)
  refine wp_canon (fun hI1 => ?_)
  refine wp_ireturn (t := 2) rfl rfl ?_
  exact ⟨_, rfl, c1⟩
