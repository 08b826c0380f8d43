/-! the class's own methods: filling, the best, what a rule costs -/
theorem sFl_1M {S : zS} (h : zGd S) {c : Int} (c0 : 0 ≤ c) (c1 : c < sN S) : ((sFl S c 1000000 (sL S).toNat).1 = 0 ↔ (sFl S c 2000000 (sL S).toNat).1 = 0) ∧ (¬ (sFl S c 1000000 (sL S).toNat).1 = 0 → sFl S c 2000000 (sL S).toNat = sFl S c 1000000 (sL S).toNat) := by
  have hN := h.1
  have hL := h.2.1
  refine ⟨⟨fun q => ?_, fun q => Classical.byContradiction (fun z => ?_)⟩, fun q => sFl_same (by decide) q⟩
  · rcases sFl_by (Y := 2000000) (by decide) q with r | r
    · exact r
    · rcases (sFl_spec (S := S) (c := c) (y := 2000000) (sL S).toNat).2.2 with g | ⟨g1, g2, g3, g4, g5, g6, g7⟩
      · exact g.1
      · have f := sFl_FB h (y := 2000000) c0 c1 (sL S).toNat (by omega)
        have hT := (h.2.2.2 c c0 c1).2.1 _ g1 (by omega)
        omega
  · rw [sFl_same (Y := 2000000) (by decide) z] at q
    exact z q
/-- a class's plan that is good -/
theorem zPl_gd {I : zMem} {p : Nat} (hg : zGd (cS I p)) (hk : ∀ c : Int, 0 ≤ c → c < I 34 2 → (0 ≤ I (p + 1) c ∧ I (p + 1) c ≤ 3) ∧ (0 ≤ I (p + 5) c ∧ I (p + 5) c < 64) ∧ (¬ 0 < I (p + 2) c → I (p + 3) c = 0 ∧ I (p + 4) c = 0)) : zPl I p := fun c c0 c1 => by
  obtain ⟨g1, g2, g3, g4, g5⟩ := hg.2.2.2 c c0 c1
  obtain ⟨k1, k2, k3⟩ := hk c c0 c1
  have hN : I 34 2 ≤ 6 := hg.1.2
  have g4 : 0 ≤ I (p + 2) c ∧ I (p + 2) c ≤ I 34 0 := g4
  by_cases q : 0 < I (p + 2) c
  · have u := zGd_U hg c0 c1 q
    have u : I (p + 3) c + 2 ≤ I (p + 4) c ∧ I (p + 4) c ≤ I (p + 3) c + 2234 ∧ 0 ≤ I (p + 3) c ∧ I (p + 3) c ≤ 99999 + 30000 * c := u
    exact ⟨k1, g4, by omega, by omega, k2⟩
  · have z := k3 q
    exact ⟨k1, g4, by omega, by omega, k2⟩
set_option maxHeartbeats 4000000 in
set_option maxRecDepth 100000 in
theorem c_X9_stuck {G : zG} {d n : Nat} {I : zMem} {R : zRef} {c m : Int} (hW : zWir n R) (hn : 115 ≤ n) (hch : zCh I) (hpl : zPl I 64) (hc : 0 ≤ c ∧ c < I 34 2) (hm : 0 ≤ m ∧ m ≤ 6) : MT G mX9_stuck (d + 4) 0 0 [zR 0, zI c, zI m] n I R (zP0 (fun I' R' => (∃ K : zMem, (K 109 1 = 4 ∧ K 110 0 = 20 + m ∧ K 110 1 = 10 + c ∧ K 110 2 = sRea (cS I 64) c 1 (sLen (cS I 64) (I 34 2).toNat) ∧ K 110 3 = sTold (cS I 64) (sRea (cS I 64) c 1 (sLen (cS I 64) (I 34 2).toNat)) c 1 (sLen (cS I 64) (I 34 2).toNat) ∧ ∀ b : Nat, b ≠ 109 → b ≠ 110 → K b = I b) ∧ I' = zrd K 64 94) ∧ R' = R)) := by
  refine MT.of (by decide +kernel) tX9_stuck_ok (Nat.le_of_ble_eq_true rfl) (fun hI0 => ?_)
  have hco := hch.1
  have hli := hch.2.1
  have hlb : 0 ≤ sLen (cS I 64) (I 34 2).toNat ∧ sLen (cS I 64) (I 34 2).toNat ≤ 1010000 := ⟨(sLen_ge _).1, sLen_le (by decide) _ (fun a a0 a1 _ => (hpl a a0 (by omega)).2.2.2.1.2)⟩
  refine wp_ls (ls' := [some (zR 0), some (zI c), some (zI m), none, none]) rfl ?_
  refine wp_aload_n (t := 0) rfl rfl ?_
  refine wp_getR (t := 1) (ji := 4) rfl fX9_40 rfl rfl (by omega) (by first | rfl | assumption) (by first | exact hW _ _ _ (by omega) rfl | assumption) ?_
  refine wp_vi (ci := 3) (c_X3_length (p := 64) (d := d + 2) (Or.inl rfl) hW hn ⟨by omega, by omega⟩ (fun a a0 a1 => (hpl a a0 a1).2.2.2.1)) (t := 2) rfl kX9_186 rfl rfl (by omega) (by first | rfl | assumption) ⟨_, _, rfl⟩ (Nat.le_of_ble_eq_true rfl) ⟨Nat.le_refl _, Nat.le_refl _⟩ (fun r4 I4 R4 c4 => ?_)
  refine wp_canon (fun hI1 => ?_)
  obtain ⟨e4, zi4, zr4⟩ := c4
  have zi4 := zi4.symm
  subst zi4
  have zr4 := zr4.symm
  subst zr4
  rw [← e4] at hlb ⊢
  refine wp_istore_n (t := 3) rfl (by decide) rfl ?_
  refine wp_aload_n (t := 4) rfl rfl ?_
  refine wp_getR (t := 5) (ji := 4) rfl fX9_40 rfl rfl (by omega) (by first | rfl | assumption) (by first | exact hW _ _ _ (by omega) rfl | assumption) ?_
  refine wp_iload_n (t := 6) rfl rfl ?_
  refine wp_iconst (t := 7) rfl ?_
  refine wp_iload_n (t := 8) rfl rfl ?_
  refine wp_vi (ci := 3) (c_X3_reason (p := 64) (d := d) (Or.inl rfl) hW hn hch hpl hc ⟨by omega, by omega⟩ hlb) (t := 9) rfl kX9_168 rfl rfl (by omega) (by first | rfl | assumption) ⟨_, _, rfl⟩ (Nat.le_of_ble_eq_true rfl) ⟨Nat.le_refl _, Nat.le_refl _⟩ (fun r15 I15 R15 c15 => ?_)
  refine wp_canon (fun hI2 => ?_)
  obtain ⟨e15, zi15, zr15⟩ := c15
  have zi15 := zi15.symm
  subst zi15
  have zr15 := zr15.symm
  subst zr15
  have b15 : 0 ≤ r15 ∧ r15 ≤ 4 := by rw [e15]; exact sRea_b _ _ _ _
  rw [← e15]
  refine wp_istore (t := 10) rfl (by decide) rfl ?_
  refine wp_aload_n (t := 11) rfl rfl ?_
  refine wp_getR (t := 12) (ji := 10) rfl fX9_77 rfl rfl (by omega) (by first | rfl | assumption) (by first | exact hW _ _ _ (by omega) rfl | assumption) ?_
  refine wp_iload_n (t := 13) rfl rfl ?_
  refine wp_iload_n (t := 14) rfl rfl ?_
  refine wp_iload (t := 15) rfl rfl ?_
  refine wp_aload_n (t := 16) rfl rfl ?_
  refine wp_getR (t := 17) (ji := 4) rfl fX9_40 rfl rfl (by omega) (by first | rfl | assumption) (by first | exact hW _ _ _ (by omega) rfl | assumption) ?_
  refine wp_iload (t := 18) rfl rfl ?_
  refine wp_iload_n (t := 19) rfl rfl ?_
  refine wp_iconst (t := 20) rfl ?_
  refine wp_iload_n (t := 21) rfl rfl ?_
  refine wp_vi (ci := 3) (c_X3_toldBy (p := 64) (d := d) (Or.inl rfl) hW hn hch hpl (by unfold zin; omega) hc ⟨by omega, by omega⟩ hlb) (t := 22) rfl kX9_172 rfl rfl (by omega) (by first | rfl | assumption) ⟨_, _, rfl⟩ (Nat.le_of_ble_eq_true rfl) ⟨Nat.le_refl _, Nat.le_refl _⟩ (fun r37 I37 R37 c37 => ?_)
  refine wp_canon (fun hI3 => ?_)
  obtain ⟨e37, zi37, zr37⟩ := c37
  have zi37 := zi37.symm
  subst zi37
  have zr37 := zr37.symm
  subst zr37
  rw [← e37]
  refine wp_vv (ci := 1) (c_X1_ofFill (d := d + 2) hW hn (by omega) ⟨by omega, by omega⟩ (by unfold zin; omega) (by rw [e37]; exact sTold_in hch hpl hlb hc ⟨by omega, by omega⟩)) (t := 23) rfl kX9_281 rfl rfl (by omega) (by first | rfl | assumption) ⟨_, _, rfl⟩ (Nat.le_of_ble_eq_true rfl) ⟨Nat.le_refl _, Nat.le_refl _⟩ (fun I40 R40 c40 => ?_)
  refine wp_canon (fun hI4 => ?_)
  obtain ⟨c40, zr40⟩ := c40
  have zr40 := zr40.symm
  subst zr40
  refine wp_aload_n (t := 24) rfl rfl ?_
  refine wp_getR (t := 25) (ji := 4) rfl fX9_40 rfl rfl (by omega) (by first | rfl | assumption) (by first | exact hW _ _ _ (by omega) rfl | assumption) ?_
  refine wp_aload_n (t := 26) rfl rfl ?_
  refine wp_getR (t := 27) (ji := 7) rfl fX9_58 rfl rfl (by omega) (by first | rfl | assumption) (by first | exact hW _ _ _ (by omega) rfl | assumption) ?_
  refine wp_vv (ci := 3) (c_X3_readFrom (p := 64) (r := 94) (d := d + 2) (Or.inl rfl) hW hn (by omega) rfl) (t := 28) rfl kX9_285 rfl rfl (by omega) (by first | rfl | assumption) ⟨_, _, rfl⟩ (Nat.le_of_ble_eq_true rfl) ⟨Nat.le_refl _, Nat.le_refl _⟩ (fun I51 R51 c51 => ?_)
  refine wp_canon (fun hI5 => ?_)
  obtain ⟨zi51, zr51⟩ := c51
  have zr51 := zr51.symm
  subst zr51
  refine wp_return (t := 29) rfl rfl ?_
  exact ⟨rfl, ⟨I40, c40, zi51⟩, rfl⟩
/-- what fill() does in the class -/
def cFillP (I : zMem) (R : zRef) (rho : Int → Nat) (n : Nat) (r : Int) (I' : zMem) (R' : zRef) : Prop := ∃ z : zS × Int × Int, z = fRun (cS I 64) (I 34 2).toNat ∧
  ((¬ z.2.2 = -4 ∧ r = -2 ∧ R' = R ∧ (I' 109 1 = 4 ∧ I' 110 0 = 20 + z.2.1 ∧ I' 110 1 = 10 + z.2.2 ∧ I' 110 2 = sRea z.1 z.2.2 1 (sLen z.1 (I 34 2).toNat) ∧ I' 110 3 = sTold z.1 (sRea z.1 z.2.2 1 (sLen z.1 (I 34 2).toNat)) z.2.2 1 (sLen z.1 (I 34 2).toNat)) ∧ (∀ j : Int, 0 ≤ j → j < 6 → I' 65 j = I 65 j ∧ I' 66 j = I 66 j ∧ I' 67 j = I 67 j ∧ I' 68 j = I 68 j) ∧ ∀ b : Nat, b ≠ 65 → b ≠ 66 → b ≠ 67 → b ≠ 68 → b ≠ 94 → b ≠ 109 → b ≠ 110 → I' b = I b) ∨
   (z.2.2 = -4 ∧ r = sLen z.1 (I 34 2).toNat ∧ ∃ K : zMem, (∀ b : Nat, b ≠ 66 → b ≠ 67 → b ≠ 68 → K b = zwr I 64 94 b) ∧ (K 66 = sW z.1 ∧ K 67 = sF z.1 ∧ K 68 = sU z.1) ∧ (∀ c : Int, 0 ≤ c → c < I 34 2 → ¬ 0 < K 66 c → K 67 c = 0 ∧ K 68 c = 0) ∧ zPush 95 8 K I' R' rho 94 ∧ zWir n R' ∧ ∀ b : Nat, b ≠ 96 → R' b = R b))
set_option maxHeartbeats 4000000 in
set_option maxRecDepth 100000 in
theorem c_X9_fill {G : zG} {d n : Nat} {I : zMem} {R : zRef} {rho : Int → Nat} (hW : zWir n R) (hn : 115 ≤ n) (hch : zCh I) (hg : zGd (cS I 64)) (hk : ∀ c : Int, 0 ≤ c → c < I 34 2 → (0 ≤ I 65 c ∧ I 65 c ≤ 3) ∧ (0 ≤ I 69 c ∧ I 69 c < 64) ∧ (¬ 0 < I 66 c → I 67 c = 0 ∧ I 68 c = 0)) (hsh : zShf 95 8 R rho) (hh : 0 ≤ I 95 1 ∧ I 95 1 ≤ 8) : MT G mX9_fill (d + 5) 0 0 [zR 0] n I R (zP1 (fun r I' R' => cFillP I R rho n r I' R')) := by
  refine MT.of (by decide +kernel) tX9_fill_ok (Nat.le_of_ble_eq_true rfl) (fun hI0 => ?_)
  have hco := hch.1
  have hli := hch.2.1
  have sN0 : sN (cS I 64) = I 34 2 := rfl
  have sL0 : sL (cS I 64) = I 34 0 := rfl
  have loop : ∀ (m : Nat) (c n9 : Int) (J : zMem), 0 ≤ c → c ≤ I 34 2 → (I 34 2 - c).toNat = m → cS J 64 = (fRun (cS I 64) c.toNat).1 → (fRun (cS I 64) c.toNat).2 = (n9, -4) → (∀ b : Nat, b ≠ 66 → b ≠ 67 → b ≠ 68 → J b = zwr I 64 94 b) → (∀ c : Int, 0 ≤ c → c < I 34 2 → ¬ 0 < J 66 c → J 67 c = 0 ∧ J 68 c = 0) →
      WP G mX9_fill (d + 5) 0 0 0 0 15 [some (zR 0), some (zI n9), some (zI c)] [] n J R (zP1 (fun r I' R' => cFillP I R rho n r I' R')) := by
    intro m
    induction m with
    | zero =>
      intro c n9 J c0 c1 cm hS hz hf hu
      have ec : c = I 34 2 := by omega
      subst ec
      have fI : ∀ b : Nat, b ≠ 66 → b ≠ 67 → b ≠ 68 → b ≠ 94 → J b = I b := fun b b1 b2 b3 b4 => (hf b b1 b2 b3).trans (zwr_na b4)
      have i34 : J 34 = I 34 := fI 34 (by decide) (by decide) (by decide) (by decide)
      have hgJ : zGd (cS J 64) := by rw [hS]; exact fRun_gd hg _ (by rw [sN0]; omega)
      have hplJ : zPl J 64 := zPl_gd hgJ (fun a a0 a1 => by
        rw [i34] at a1
        have q := hk a a0 a1
        exact ⟨by rw [fI _ (by decide) (by decide) (by decide) (by decide)]; exact q.1, by rw [fI _ (by decide) (by decide) (by decide) (by decide)]; exact q.2.1, hu a a0 a1⟩)
      refine wp_canon (fun hI0 => ?_)
      refine wp_iload_n (t := 9) rfl rfl ?_
      refine wp_aload_n (t := 10) rfl rfl ?_
      refine wp_getR (t := 11) (ji := 3) rfl fX9_32 rfl rfl (by omega) (by first | rfl | assumption) (by first | exact hW _ _ _ (by omega) rfl | assumption) ?_
      refine wp_getI (t := 12) (ji := 2) rfl fX9_194 rfl rfl (by omega) (by first | rfl | assumption) ?_
      rw [i34]
      refine wp_icmp_ge (t := 13) (tgt := 71) rfl (by decide) (by first | assumption | exact hI0 _ _ | exact zin_and _ _ | (unfold zin; omega) | (unfold zin at *; omega)) (by first | assumption | exact hI0 _ _ | exact zin_and _ _ | (unfold zin; omega) | (unfold zin at *; omega)) (fun h23 => ?_) (fun h23 => ?_)
      · refine wp_aload_n (t := 35) rfl rfl ?_
        refine wp_getR (t := 36) (ji := 8) rfl fX9_67 rfl rfl (by omega) (by first | rfl | assumption) (by first | exact hW _ _ _ (by omega) rfl | assumption) ?_
        refine wp_aload_n (t := 37) rfl rfl ?_
        refine wp_getR (t := 38) (ji := 7) rfl fX9_58 rfl rfl (by omega) (by first | rfl | assumption) (by first | exact hW _ _ _ (by omega) rfl | assumption) ?_
        refine wp_vv (ci := 6) (c_X6_push (o := 95) (m := 8) (d := d + 3) (Or.inl ⟨rfl, rfl⟩) hW hn hsh (by rw [fI 95 (by decide) (by decide) (by decide) (by decide)]; exact hh)) (t := 39) rfl kX9_206 rfl rfl (by omega) (by first | rfl | assumption) ⟨_, _, rfl⟩ (Nat.le_of_ble_eq_true rfl) ⟨Nat.le_refl _, Nat.le_refl _⟩ (fun I79 R79 c79 => ?_)
        refine wp_canon (fun hI1 => ?_)
        obtain ⟨p79, w79, f79⟩ := c79
        have n79 := zPush_na p79
        have w04 : R79 0 4 = some 64 := w79 0 4 _ (by omega) rfl
        have j34 : I79 34 = I 34 := (n79 34 (Or.inl (by decide))).trans i34
        refine wp_aload_n (t := 40) rfl rfl ?_
        refine wp_getR (t := 41) (ji := 4) rfl fX9_40 rfl rfl (by omega) (by first | rfl | assumption) (by first | exact hW _ _ _ (by omega) rfl | assumption) ?_
        refine wp_vi (ci := 3) (c_X3_length (p := 64) (d := d + 3) (Or.inl rfl) w79 hn (by rw [j34]; omega) (fun a a0 a1 => by rw [j34] at a1; rw [n79 _ (Or.inl (by decide))]; exact (hplJ a a0 (by rw [i34]; exact a1)).2.2.2.1)) (t := 42) rfl kX9_186 rfl rfl (by omega) (by first | rfl | assumption) ⟨_, _, rfl⟩ (Nat.le_of_ble_eq_true rfl) ⟨Nat.le_refl _, Nat.le_refl _⟩ (fun r86 I86 R86 c86 => ?_)
        refine wp_canon (fun hI2 => ?_)
        obtain ⟨e86, zi86, zr86⟩ := c86
        have zi86 := zi86.symm
        subst zi86
        have zr86 := zr86.symm
        subst zr86
        refine wp_ireturn (t := 43) rfl rfl ?_
        have S79 : cS I79 64 = cS J 64 := cS_ext (n79 _ (Or.inl (by decide))) (n79 _ (Or.inl (by decide))) (n79 _ (Or.inl (by decide))) (fun b _ _ => n79 b (Or.inl (by omega))) (n79 _ (Or.inl (by decide))) (n79 _ (Or.inl (by decide))) (n79 _ (Or.inl (by decide))) (n79 _ (Or.inl (by decide))) (n79 _ (Or.inl (by decide)))
        refine ⟨_, rfl, _, rfl, Or.inr ⟨by rw [hz], by rw [e86, S79, hS, j34], J, hf, ?_, hu, p79, w79, f79⟩⟩
        rw [← hS]
        exact ⟨rfl, rfl, rfl⟩
      · exact absurd h23 (by omega)
    | succ m ih =>
      intro c n9 J c0 c1 cm hS hz hf hu
      have fI : ∀ b : Nat, b ≠ 66 → b ≠ 67 → b ≠ 68 → b ≠ 94 → J b = I b := fun b b1 b2 b3 b4 => (hf b b1 b2 b3).trans (zwr_na b4)
      have i34 : J 34 = I 34 := fI 34 (by decide) (by decide) (by decide) (by decide)
      have hgJ : zGd (cS J 64) := by rw [hS]; exact fRun_gd hg _ (by rw [sN0]; omega)
      have hplJ : zPl J 64 := zPl_gd hgJ (fun a a0 a1 => by
        rw [i34] at a1
        have q := hk a a0 a1
        exact ⟨by rw [fI _ (by decide) (by decide) (by decide) (by decide)]; exact q.1, by rw [fI _ (by decide) (by decide) (by decide) (by decide)]; exact q.2.1, hu a a0 a1⟩)
      have hchJ : zCh J := zCh_ext (fun b b1 b2 => fI b (by omega) (by omega) (by omega) (by omega)) hch
      have cN : c < I 34 2 := by omega
      have fk := (fRun_keep (cS I 64) c.toNat).2.2.2.2
      have eW : J 66 c = I 66 c := by
        have := (fk.1 c (Or.inl (by omega))).1
        rw [← hS] at this
        exact this
      have n9b : 0 ≤ n9 ∧ n9 ≤ c := by
        have := fk.2.1
        rw [hz] at this
        have this : 0 ≤ n9 ∧ n9 ≤ ((c.toNat : Nat) : Int) := this
        omega
      have fs := fRun_succ (cS I 64) c0
      rw [sL0] at fs
      have fl1 := sFl_1M hgJ (c := c) c0 (by show c < J 34 2; rw [i34]; exact cN)
      have sLJ : sL (cS J 64) = I 34 0 := by show J 34 0 = _; rw [i34]
      rw [sLJ] at fl1
      have e34 : J 34 0 = I 34 0 := by rw [i34]
      refine wp_canon (fun hI0 => ?_)
      refine wp_iload_n (t := 9) rfl rfl ?_
      refine wp_aload_n (t := 10) rfl rfl ?_
      refine wp_getR (t := 11) (ji := 3) rfl fX9_32 rfl rfl (by omega) (by first | rfl | assumption) (by first | exact hW _ _ _ (by omega) rfl | assumption) ?_
      refine wp_getI (t := 12) (ji := 2) rfl fX9_194 rfl rfl (by omega) (by first | rfl | assumption) ?_
      rw [i34]
      refine wp_icmp_ge (t := 13) (tgt := 71) rfl (by decide) (by first | assumption | exact hI0 _ _ | exact zin_and _ _ | (unfold zin; omega) | (unfold zin at *; omega)) (by first | assumption | exact hI0 _ _ | exact zin_and _ _ | (unfold zin; omega) | (unfold zin at *; omega)) (fun h23 => ?_) (fun h23 => ?_)
      · exact absurd h23 (by omega)
      · refine wp_aload_n (t := 14) rfl rfl ?_
        refine wp_getR (t := 15) (ji := 4) rfl fX9_40 rfl rfl (by omega) (by first | rfl | assumption) (by first | exact hW _ _ _ (by omega) rfl | assumption) ?_
        refine wp_iload_n (t := 16) rfl rfl ?_
        refine wp_vi (ci := 3) (c_X3_isPut (p := 64) (d := d + 4) (Or.inl rfl) hW hn ⟨by omega, by omega⟩) (t := 17) rfl kX9_132 rfl rfl (by omega) (by first | rfl | assumption) ⟨_, _, rfl⟩ (Nat.le_of_ble_eq_true rfl) ⟨Nat.le_refl _, Nat.le_refl _⟩ (fun r31 I31 R31 c31 => ?_)
        refine wp_canon (fun hI1 => ?_)
        obtain ⟨e31, zi31, zr31⟩ := c31
        have zi31 := zi31.symm
        subst zi31
        have zr31 := zr31.symm
        subst zr31
        have b31 : 0 ≤ r31 ∧ r31 ≤ 1 := by rw [e31]; split <;> omega
        have n31 : ¬ r31 = 0 → 0 < J 66 c := fun h => by (rw [e31] at h; by_cases q : 0 < J 66 c; exact q; rw [if_neg q] at h; exact absurd rfl h)
        have m31 : r31 = 0 → ¬ (0 < J 66 c) := fun h q => by (rw [e31, if_pos q] at h; exact absurd h (by decide))
        refine wp_if_eq (t := 18) (tgt := 40) rfl (by decide) (by first | assumption | exact hI1 _ _ | exact hI0 _ _ | exact zin_and _ _ | (unfold zin; omega) | (unfold zin at *; omega)) (fun h34 => ?_) (fun h34 => ?_)
        · refine wp_aload_n (t := 20) rfl rfl ?_
          refine wp_getR (t := 21) (ji := 4) rfl fX9_40 rfl rfl (by omega) (by first | rfl | assumption) (by first | exact hW _ _ _ (by omega) rfl | assumption) ?_
          refine wp_iload_n (t := 22) rfl rfl ?_
          refine wp_ldc (1000000) (t := 23) rfl (wsL_law_r29_l (List.mem_of_getElem? (i := 1) rfl)) (by decide) ?_
          refine wp_vi (ci := 3) (c_X3_placeDoneFirst (p := 64) (d := d) (Or.inl rfl) hW hn hchJ hplJ ⟨c0, by rw [i34]; exact cN⟩ ⟨by omega, by omega⟩) (t := 24) rfl kX9_198 rfl rfl (by omega) (by first | rfl | assumption) ⟨_, _, rfl⟩ (Nat.le_of_ble_eq_true rfl) ⟨Nat.le_refl _, Nat.le_refl _⟩ (fun r47 I47 R47 c47 => ?_)
          refine wp_canon (fun hI2 => ?_)
          obtain ⟨c47, zr47⟩ := c47
          have zr47 := zr47.symm
          subst zr47
          rw [e34] at c47
          have np := m31 (by omega)
          rw [eW] at np
          have ns : ¬ (¬ (fRun (cS I 64) c.toNat).2.2 = -4 ∨ 0 < sW (cS I 64) c) := fun q => by rcases q with q | q; exact q (by rw [hz]); exact np q
          rw [if_neg ns, ← hS] at fs
          have b47 : 0 ≤ r47 ∧ r47 ≤ 1 := by rcases c47 with q | q <;> omega
          refine wp_if_ne (t := 25) (tgt := 62) rfl (by decide) (by first | assumption | exact hI2 _ _ | exact hI1 _ _ | exact hI0 _ _ | exact zin_and _ _ | (unfold zin; omega) | (unfold zin at *; omega)) (fun h50 => ?_) (fun h50 => ?_)
          · refine wp_iinc (t := 32) rfl rfl (by decide) rfl ?_
            refine wp_iinc (t := 33) rfl rfl (by decide) rfl ?_
            refine wp_goto (t := 34) (tgt := 15) rfl (by decide) ?_
            have c47 : (sFl (cS J 64) c 1000000 (I 34 0).toNat).1 ≠ 0 ∧ I47 = zput J 64 c (sFl (cS J 64) c 1000000 (I 34 0).toNat).1 (sFl (cS J 64) c 1000000 (I 34 0).toNat).2.1 := by rcases c47 with q | q; omega; exact q.2
            obtain ⟨k47, zi47⟩ := c47
            rw [if_neg (fun q => k47 (fl1.1.mpr q)), fl1.2 k47] at fs
            have cp := cS_put (I := J) (p := 64) (c := c) (w := (sFl (cS J 64) c 1000000 (I 34 0).toNat).1) (t := (sFl (cS J 64) c 1000000 (I 34 0).toNat).2.1) (Or.inl rfl)
            obtain ⟨q1, q2, q3, q4⟩ := zu3_eq (I := J) (p := 64) (c := c) (w := (sFl (cS J 64) c 1000000 (I 34 0).toNat).1) (t := (sFl (cS J 64) c 1000000 (I 34 0).toNat).2.1) (u := (sFl (cS J 64) c 1000000 (I 34 0).toNat).2.1 + sT (cS J 64) c (sFl (cS J 64) c 1000000 (I 34 0).toNat).1)
            have sp := (sFl_spec (S := cS J 64) (c := c) (y := 1000000) (I 34 0).toNat).2.2
            generalize sFl (cS J 64) c 1000000 (I 34 0).toNat = zz at *
            have cp : cS I47 64 = sPut (cS J 64) c zz.1 zz.2.1 := by rw [zi47]; exact cp
            have w66 : I47 66 = fun j => if j = c then zz.1 else J 66 j := by rw [zi47]; exact q1
            have w67 : I47 67 = fun j => if j = c then zz.2.1 else J 67 j := by rw [zi47]; exact q2
            have w68 : I47 68 = fun j => if j = c then zz.2.1 + sT (cS J 64) c zz.1 else J 68 j := by rw [zi47]; exact q3
            refine ih (c + 1) (n9 + 1) I47 (by omega) (by omega) (by omega) (by rw [fs]; exact cp) (by rw [fs, hz]) (fun b b1 b2 b3 => by rw [zi47, zput_b b1 b2 b3]; exact hf b b1 b2 b3) (fun a a0 a1 => ?_)
            rw [w66, w67, w68]
            dsimp only
            by_cases e : a = c
            · rw [if_pos e]
              intro q
              rcases sp with r | r
              · exact absurd r.1 k47
              · omega
            · rw [if_neg e, if_neg e, if_neg e]
              exact hu a a0 a1
          · have c47 : (sFl (cS J 64) c 1000000 (I 34 0).toNat).1 = 0 ∧ I47 = J := by rcases c47 with q | q; exact q.2; omega
            obtain ⟨k47, zi47⟩ := c47
            subst zi47
            rw [if_pos (fl1.1.mp k47)] at fs
            have st : ∀ q : Nat, fRun (cS I 64) ((c + 1).toNat + q) = (cS I47 64, (fRun (cS I 64) c.toNat).2.1, c) := fun q => by
              induction q with
              | zero => exact fs
              | succ q ihq =>
                have e2 : fRun (cS I 64) ((c + 1).toNat + (q + 1)) = if ¬ (fRun (cS I 64) ((c + 1).toNat + q)).2.2 = -4 ∨ 0 < sW (cS I 64) (((c + 1).toNat + q : Nat) : Int) then fRun (cS I 64) ((c + 1).toNat + q) else _ := rfl
                rw [e2, ihq, if_pos (Or.inl (by show ¬ c = -4; omega))]
            have fN := st ((I 34 2).toNat - (c + 1).toNat)
            rw [show (c + 1).toNat + ((I 34 2).toNat - (c + 1).toNat) = (I 34 2).toNat by omega, hz] at fN
            refine wp_aload_n (t := 26) rfl rfl ?_
            refine wp_iload_n (t := 27) rfl rfl ?_
            refine wp_iload_n (t := 28) rfl rfl ?_
            refine wp_vv (ci := 9) (c_X9_stuck (d := d) hW hn hchJ hplJ ⟨c0, by rw [i34]; exact cN⟩ ⟨n9b.1, by omega⟩) (t := 29) rfl kX9_202 rfl rfl (by omega) (by first | rfl | assumption) ⟨_, _, rfl⟩ (Nat.le_of_ble_eq_true rfl) ⟨Nat.le_refl _, Nat.le_refl _⟩ (fun I56 R56 c56 => ?_)
            refine wp_canon (fun hI3 => ?_)
            obtain ⟨⟨K, ⟨k1, k2, k3, k4, k5, k6⟩, zi56⟩, zr56⟩ := c56
            have zr56 := zr56.symm
            subst zr56
            rw [i34] at k4 k5
            refine wp_bipush (t := 30) rfl (by decide) ?_
            refine wp_ireturn (t := 31) rfl rfl ?_
            refine ⟨_, rfl, _, fN.symm, Or.inl ⟨by show ¬ c = -4; omega, rfl, rfl, ?_, fun j j0 j1 => ?_, fun b b1 b2 b3 b4 b5 b6 b7 => ?_⟩⟩
            · rw [zi56, zrd_na (b := 109) (by decide) (by decide) (by decide) (by decide), zrd_na (b := 110) (by decide) (by decide) (by decide) (by decide)]
              exact ⟨k1, k2, k3, k4, k5⟩
            · have ra := zrd_at (I := K) (p := 64) (r := 94) (fun k _ _ => by omega) j0 j1
              have wa := zwr_at (I := I) (p := 64) (r := 94) (fun k _ _ => by omega) j0 j1
              have k94 : K 94 = zwr I 64 94 94 := (k6 94 (by decide) (by decide)).trans (hf 94 (by decide) (by decide) (by decide))
              rw [k94] at ra
              rw [zi56]
              exact ⟨ra.1.trans wa.1, ra.2.1.trans wa.2.1, ra.2.2.1.trans wa.2.2.1, ra.2.2.2.trans wa.2.2.2⟩
            · rw [zi56, zrd_na b1 b2 b3 b4, k6 b b6 b7]
              exact fI b b2 b3 b4 b5
        · refine wp_goto (t := 19) (tgt := 65) rfl (by decide) ?_
          refine wp_iinc (t := 33) rfl rfl (by decide) rfl ?_
          refine wp_goto (t := 34) (tgt := 15) rfl (by decide) ?_
          have pc := n31 h34
          rw [eW] at pc
          have fs2 : fRun (cS I 64) (c + 1).toNat = fRun (cS I 64) c.toNat := by rw [fs, if_pos (Or.inr (show 0 < sW (cS I 64) c from pc))]
          exact ih (c + 1) n9 J (by omega) (by omega) (by omega) (by rw [fs2]; exact hS) (by rw [fs2]; exact hz) hf hu
  refine wp_ls (ls' := [some (zR 0), none, none]) rfl ?_
  refine wp_aload_n (t := 0) rfl rfl ?_
  refine wp_getR (t := 1) (ji := 4) rfl fX9_40 rfl rfl (by omega) (by first | rfl | assumption) (by first | exact hW _ _ _ (by omega) rfl | assumption) ?_
  refine wp_aload_n (t := 2) rfl rfl ?_
  refine wp_getR (t := 3) (ji := 7) rfl fX9_58 rfl rfl (by omega) (by first | rfl | assumption) (by first | exact hW _ _ _ (by omega) rfl | assumption) ?_
  refine wp_vv (ci := 3) (c_X3_writeTo (p := 64) (r := 94) (d := d + 3) (Or.inl rfl) hW hn (by omega) rfl) (t := 4) rfl kX9_190 rfl rfl (by omega) (by first | rfl | assumption) ⟨_, _, rfl⟩ (Nat.le_of_ble_eq_true rfl) ⟨Nat.le_refl _, Nat.le_refl _⟩ (fun I8 R8 c8 => ?_)
  refine wp_canon (fun hI1 => ?_)
  obtain ⟨zi8, zr8⟩ := c8
  have zr8 := zr8.symm
  subst zr8
  refine wp_iconst (t := 5) rfl ?_
  refine wp_istore_n (t := 6) rfl (by decide) rfl ?_
  refine wp_iconst (t := 7) rfl ?_
  refine wp_istore_n (t := 8) rfl (by decide) rfl ?_
  refine loop _ 0 0 I8 (by omega) (by omega) rfl ?_ rfl (fun b _ _ _ => by rw [zi8]) (fun a a0 a1 => by rw [zi8, zwr_na (by decide), zwr_na (by decide), zwr_na (by decide)]; exact (hk a a0 a1).2.2)
  rw [zi8]
  exact cS_ext (zwr_na (by decide)) (zwr_na (by decide)) (zwr_na (by decide)) (fun b _ _ => zwr_na (by omega)) (zwr_na (by decide)) (zwr_na (by decide)) (zwr_na (by decide)) (zwr_na (by decide)) (zwr_na (by decide))
theorem zBok_ext {B : zBst} {I J : zMem} (h : ∀ b : Nat, 34 ≤ b → b ≤ 63 → J b = I b) (hB : zBok B I) : zBok B J := by
  unfold zBok at hB ⊢
  have e34 := h 34 (by decide) (by decide)
  rw [e34, h 37 (by decide) (by decide), h 46 (by decide) (by decide), h 47 (by decide) (by decide)]
  refine ⟨hB.1, fun ka lo K o bo hK => hB.2 ka lo K o bo (fun b b1 b2 => (hK b b1 b2).trans (h b b1 b2))⟩
/-- what the class says of the best -/
def cBst (B : zBst) (I : zMem) (lo r : Int) (o : Int → Int) : Prop := (r = -4 ∧ ∃ c : Int, 0 ≤ c ∧ c < I 34 2 ∧ I 34 1 < I 37 c) ∨ ((∀ c : Int, 0 ≤ c → c < I 34 2 → I 37 c ≤ I 34 1) ∧ B (I 65) lo r o)
set_option maxHeartbeats 4000000 in
set_option maxRecDepth 100000 in
theorem c_X9_best {G : zG} {d n : Nat} {I : zMem} {R : zRef} {B : zBst} {k : Int} (hW : zWir n R) (hn : 115 ≤ n) (hch : zCh I) (hka : ∀ c : Int, 0 ≤ c → c < I 34 2 → 0 ≤ I 65 c ∧ I 65 c ≤ 3) (hB : zBok B I) (hca : zCache B I) (hk : zin k) : MT G mX9_best (d + 13) 0 0 [zR 0, zI k] n I R (zP1 (fun r I' R' => ((¬ (-1 ≤ k ∧ k < I 34 2) ∧ r = -1 ∧ I' = I) ∨ ((-1 ≤ k ∧ k < I 34 2) ∧ (∀ b : Nat, (b < 72 ∨ 93 < b) → I' b = I b) ∧ zCache B I' ∧ ∃ (r0 : Int) (o : Int → Int), cBst B I (-1) r0 o ∧ r = if r0 = -4 ∨ k = -1 then r0 else o k)) ∧ R' = R)) := by
  refine MT.of (by decide +kernel) tX9_best_ok (Nat.le_of_ble_eq_true rfl) (fun hI0 => ?_)
  have hco := hch.1
  refine wp_ls (ls' := [some (zR 0), some (zI k), none]) rfl ?_
  refine wp_iload_n (t := 0) rfl rfl ?_
  refine wp_iconst (t := 1) rfl ?_
  refine wp_icmp_lt (t := 2) (tgt := 16) rfl (by decide) (by first | assumption | exact hI0 _ _ | exact zin_and _ _ | (unfold zin; omega) | (unfold zin at *; omega)) (by first | assumption | exact hI0 _ _ | exact zin_and _ _ | (unfold zin; omega) | (unfold zin at *; omega)) (fun h2 => ?_) (fun h2 => ?_)
  · refine wp_iconst (t := 8) rfl ?_
    refine wp_ireturn (t := 9) rfl rfl ?_
    exact ⟨_, rfl, Or.inl ⟨by omega, rfl, rfl⟩, rfl⟩
  · refine wp_iload_n (t := 3) rfl rfl ?_
    refine wp_aload_n (t := 4) rfl rfl ?_
    refine wp_getR (t := 5) (ji := 3) rfl fX9_32 rfl rfl (by omega) (by first | rfl | assumption) (by first | exact hW _ _ _ (by omega) rfl | assumption) ?_
    refine wp_getI (t := 6) (ji := 2) rfl fX9_194 rfl rfl (by omega) (by first | rfl | assumption) ?_
    refine wp_icmp_lt (t := 7) (tgt := 18) rfl (by decide) (by first | assumption | exact hI0 _ _ | exact zin_and _ _ | (unfold zin; omega) | (unfold zin at *; omega)) (by first | assumption | exact hI0 _ _ | exact zin_and _ _ | (unfold zin; omega) | (unfold zin at *; omega)) (fun h13 => ?_) (fun h13 => ?_)
    · refine wp_aload_n (t := 10) rfl rfl ?_
      refine wp_getR (t := 11) (ji := 6) rfl fX9_54 rfl rfl (by omega) (by first | rfl | assumption) (by first | exact hW _ _ _ (by omega) rfl | assumption) ?_
      refine wp_aload_n (t := 12) rfl rfl ?_
      refine wp_getR (t := 13) (ji := 4) rfl fX9_40 rfl rfl (by omega) (by first | rfl | assumption) (by first | exact hW _ _ _ (by omega) rfl | assumption) ?_
      refine wp_bipush (t := 14) rfl (by decide) ?_
      refine wp_vi (ci := 5) (c_X5_leastLength (lo := -4) (d := d) hW hn hch hka hB hca (Or.inl rfl)) (t := 15) rfl kX9_241 rfl rfl (by omega) (by first | rfl | assumption) ⟨_, _, rfl⟩ (Nat.le_of_ble_eq_true rfl) ⟨Nat.le_refl _, Nat.le_refl _⟩ (fun r28 I28 R28 c28 => ?_)
      refine wp_canon (fun hI1 => ?_)
      obtain ⟨⟨f28, ca28, c28⟩, zr28⟩ := c28
      have zr28 := zr28.symm
      subst zr28
      have cb : cBst B I (-1) r28 (I28 75) := by
        rcases c28 with q | ⟨q1, q2, q3⟩
        · exact Or.inl q
        · exact Or.inr ⟨q1, q3⟩
      have b28 : -4 ≤ r28 ∧ r28 ≤ 1000000 := by rcases c28 with q | q <;> omega
      refine wp_istore_n (t := 16) rfl (by decide) rfl ?_
      refine wp_iload_n (t := 17) rfl rfl ?_
      refine wp_bipush (t := 18) rfl (by decide) ?_
      refine wp_icmp_eq (t := 19) (tgt := 43) rfl (by decide) (by first | assumption | exact hI1 _ _ | exact hI0 _ _ | exact zin_and _ _ | (unfold zin; omega) | (unfold zin at *; omega)) (by first | assumption | exact hI1 _ _ | exact hI0 _ _ | exact zin_and _ _ | (unfold zin; omega) | (unfold zin at *; omega)) (fun h35 => ?_) (fun h35 => ?_)
      · refine wp_iload_n (t := 23) rfl rfl ?_
        refine wp_ireturn (t := 24) rfl rfl ?_
        exact ⟨_, rfl, Or.inr ⟨⟨by omega, by omega⟩, f28, ca28, _, _, cb, (if_pos (Or.inl (by omega))).symm⟩, rfl⟩
      · refine wp_iload_n (t := 20) rfl rfl ?_
        refine wp_iconst (t := 21) rfl ?_
        refine wp_icmp_ne (t := 22) (tgt := 45) rfl (by decide) (by first | assumption | exact hI1 _ _ | exact hI0 _ _ | exact zin_and _ _ | (unfold zin; omega) | (unfold zin at *; omega)) (by first | assumption | exact hI1 _ _ | exact hI0 _ _ | exact zin_and _ _ | (unfold zin; omega) | (unfold zin at *; omega)) (fun h40 => ?_) (fun h40 => ?_)
        · refine wp_aload_n (t := 25) rfl rfl ?_
          refine wp_getR (t := 26) (ji := 6) rfl fX9_54 rfl rfl (by omega) (by first | rfl | assumption) (by first | exact hW _ _ _ (by omega) rfl | assumption) ?_
          refine wp_iload_n (t := 27) rfl rfl ?_
          refine wp_vi (ci := 5) (c_X5_placedAt (d := d + 12) hW hn ⟨by omega, by omega⟩) (t := 28) rfl kX9_245 rfl rfl (by omega) (by first | rfl | assumption) ⟨_, _, rfl⟩ (Nat.le_of_ble_eq_true rfl) ⟨Nat.le_refl _, Nat.le_refl _⟩ (fun r50 I50 R50 c50 => ?_)
          refine wp_canon (fun hI2 => ?_)
          obtain ⟨e50, zi50, zr50⟩ := c50
          have zi50 := zi50.symm
          subst zi50
          have zr50 := zr50.symm
          subst zr50
          refine wp_ireturn (t := 29) rfl rfl ?_
          exact ⟨_, rfl, Or.inr ⟨⟨by omega, by omega⟩, f28, ca28, _, _, cb, by rw [if_neg (fun q => by omega)]; exact e50⟩, rfl⟩
        · refine wp_iload_n (t := 23) rfl rfl ?_
          refine wp_ireturn (t := 24) rfl rfl ?_
          exact ⟨_, rfl, Or.inr ⟨⟨by omega, by omega⟩, f28, ca28, _, _, cb, (if_pos (Or.inr (by omega))).symm⟩, rfl⟩
    · refine wp_iconst (t := 8) rfl ?_
      refine wp_ireturn (t := 9) rfl rfl ?_
      exact ⟨_, rfl, Or.inl ⟨by omega, rfl, rfl⟩, rfl⟩
set_option maxHeartbeats 4000000 in
set_option maxRecDepth 100000 in
theorem c_X9_costs {G : zG} {d n : Nat} {I : zMem} {R : zRef} {B : zBst} {b : Int} (hW : zWir n R) (hn : 115 ≤ n) (hch : zCh I) (hka : ∀ c : Int, 0 ≤ c → c < I 34 2 → 0 ≤ I 65 c ∧ I 65 c ≤ 3) (hB : zBok B I) (hca : zCache B I) (hb : zin b) : MT G mX9_costs (d + 13) 0 0 [zR 0, zI b] n I R (zP1 (fun r I' R' => ((¬ (0 ≤ b ∧ b < I 34 3) ∧ r = -1 ∧ I' = I) ∨ ((0 ≤ b ∧ b < I 34 3) ∧ (∀ b : Nat, (b < 72 ∨ 93 < b) → I' b = I b) ∧ zCache B I' ∧ ∃ (r0 r1 : Int) (o o1 : Int → Int), cBst B I (-1) r0 o ∧ cBst B I b r1 o1 ∧ r = if r0 = -4 ∨ r1 = -4 then -4 else r0 - r1 + 100000)) ∧ R' = R)) := by
  refine MT.of (by decide +kernel) tX9_costs_ok (Nat.le_of_ble_eq_true rfl) (fun hI0 => ?_)
  have hco := hch.1
  have hru := hch.2.2.2.1
  refine wp_ls (ls' := [some (zR 0), some (zI b), none, none]) rfl ?_
  refine wp_iload_n (t := 0) rfl rfl ?_
  refine wp_if_lt (t := 1) (tgt := 15) rfl (by decide) (by first | assumption | exact hI0 _ _ | exact zin_and _ _ | (unfold zin; omega) | (unfold zin at *; omega)) (fun h1 => ?_) (fun h1 => ?_)
  · refine wp_iconst (t := 7) rfl ?_
    refine wp_ireturn (t := 8) rfl rfl ?_
    exact ⟨_, rfl, Or.inl ⟨by omega, rfl, rfl⟩, rfl⟩
  · refine wp_iload_n (t := 2) rfl rfl ?_
    refine wp_aload_n (t := 3) rfl rfl ?_
    refine wp_getR (t := 4) (ji := 3) rfl fX9_32 rfl rfl (by omega) (by first | rfl | assumption) (by first | exact hW _ _ _ (by omega) rfl | assumption) ?_
    refine wp_getI (t := 5) (ji := 3) rfl fX9_248 rfl rfl (by omega) (by first | rfl | assumption) ?_
    refine wp_icmp_lt (t := 6) (tgt := 17) rfl (by decide) (by first | assumption | exact hI0 _ _ | exact zin_and _ _ | (unfold zin; omega) | (unfold zin at *; omega)) (by first | assumption | exact hI0 _ _ | exact zin_and _ _ | (unfold zin; omega) | (unfold zin at *; omega)) (fun h12 => ?_) (fun h12 => ?_)
    · refine wp_aload_n (t := 9) rfl rfl ?_
      refine wp_getR (t := 10) (ji := 6) rfl fX9_54 rfl rfl (by omega) (by first | rfl | assumption) (by first | exact hW _ _ _ (by omega) rfl | assumption) ?_
      refine wp_aload_n (t := 11) rfl rfl ?_
      refine wp_getR (t := 12) (ji := 4) rfl fX9_40 rfl rfl (by omega) (by first | rfl | assumption) (by first | exact hW _ _ _ (by omega) rfl | assumption) ?_
      refine wp_bipush (t := 13) rfl (by decide) ?_
      refine wp_vi (ci := 5) (c_X5_leastLength (lo := -4) (d := d) hW hn hch hka hB hca (Or.inl rfl)) (t := 14) rfl kX9_241 rfl rfl (by omega) (by first | rfl | assumption) ⟨_, _, rfl⟩ (Nat.le_of_ble_eq_true rfl) ⟨Nat.le_refl _, Nat.le_refl _⟩ (fun r27 I27 R27 c27 => ?_)
      refine wp_canon (fun hI1 => ?_)
      obtain ⟨⟨f27, ca27, c27⟩, zr27⟩ := c27
      have zr27 := zr27.symm
      subst zr27
      have cb : cBst B I (-1) r27 (I27 75) := by
        rcases c27 with q | ⟨q1, q2, q3⟩
        · exact Or.inl q
        · exact Or.inr ⟨q1, q3⟩
      have b27 : -4 ≤ r27 ∧ r27 ≤ 1000000 := by rcases c27 with q | q <;> omega
      have i34 : I27 34 = I 34 := f27 34 (by decide)
      have i65 : I27 65 = I 65 := f27 65 (by decide)
      have i37 : I27 37 = I 37 := f27 37 (by decide)
      refine wp_istore_n (t := 15) rfl (by decide) rfl ?_
      refine wp_aload_n (t := 16) rfl rfl ?_
      refine wp_getR (t := 17) (ji := 6) rfl fX9_54 rfl rfl (by omega) (by first | rfl | assumption) (by first | exact hW _ _ _ (by omega) rfl | assumption) ?_
      refine wp_aload_n (t := 18) rfl rfl ?_
      refine wp_getR (t := 19) (ji := 4) rfl fX9_40 rfl rfl (by omega) (by first | rfl | assumption) (by first | exact hW _ _ _ (by omega) rfl | assumption) ?_
      refine wp_iload_n (t := 20) rfl rfl ?_
      refine wp_vi (ci := 5) (c_X5_leastLength (lo := b) (d := d) hW hn (zCh_ext (fun x _ _ => f27 x (by omega)) hch) (by rw [i34, i65]; exact hka) (zBok_ext (fun x _ _ => f27 x (by omega)) hB) ca27 (Or.inr ⟨by omega, by omega⟩)) (t := 21) rfl kX9_241 rfl rfl (by omega) (by first | rfl | assumption) ⟨_, _, rfl⟩ (Nat.le_of_ble_eq_true rfl) ⟨Nat.le_refl _, Nat.le_refl _⟩ (fun r40 I40 R40 c40 => ?_)
      refine wp_canon (fun hI2 => ?_)
      obtain ⟨⟨f40, ca40, c40⟩, zr40⟩ := c40
      have zr40 := zr40.symm
      subst zr40
      rw [i34, i37, i65, if_neg (show ¬ b < 0 by omega)] at c40
      have cb2 : cBst B I b r40 (I40 (75 + (b + 1).toNat)) := by
        rcases c40 with q | ⟨q1, q2, q3⟩
        · exact Or.inl q
        · rw [if_neg (show ¬ b < 0 by omega)] at q3
          exact Or.inr ⟨q1, q3⟩
      have b40 : -4 ≤ r40 ∧ r40 ≤ 1000000 := by rcases c40 with q | q <;> omega
      have ff : ∀ x : Nat, (x < 72 ∨ 93 < x) → I40 x = I x := fun x hx => (f40 x hx).trans (f27 x hx)
      refine wp_istore_n (t := 22) rfl (by decide) rfl ?_
      refine wp_iload_n (t := 23) rfl rfl ?_
      refine wp_bipush (t := 24) rfl (by decide) ?_
      refine wp_icmp_eq (t := 25) (tgt := 56) rfl (by decide) (by first | assumption | exact hI2 _ _ | exact hI1 _ _ | exact hI0 _ _ | exact zin_and _ _ | (unfold zin; omega) | (unfold zin at *; omega)) (by first | assumption | exact hI2 _ _ | exact hI1 _ _ | exact hI0 _ _ | exact zin_and _ _ | (unfold zin; omega) | (unfold zin at *; omega)) (fun h47 => ?_) (fun h47 => ?_)
      · refine wp_bipush (t := 29) rfl (by decide) ?_
        refine wp_ireturn (t := 30) rfl rfl ?_
        exact ⟨_, rfl, Or.inr ⟨⟨by omega, by omega⟩, ff, ca40, _, _, _, _, cb, cb2, (if_pos (Or.inl (by omega))).symm⟩, rfl⟩
      · refine wp_iload_n (t := 26) rfl rfl ?_
        refine wp_bipush (t := 27) rfl (by decide) ?_
        refine wp_icmp_ne (t := 28) (tgt := 59) rfl (by decide) (by first | assumption | exact hI2 _ _ | exact hI1 _ _ | exact hI0 _ _ | exact zin_and _ _ | (unfold zin; omega) | (unfold zin at *; omega)) (by first | assumption | exact hI2 _ _ | exact hI1 _ _ | exact hI0 _ _ | exact zin_and _ _ | (unfold zin; omega) | (unfold zin at *; omega)) (fun h53 => ?_) (fun h53 => ?_)
        · refine wp_iload_n (t := 31) rfl rfl ?_
          refine wp_iload_n (t := 32) rfl rfl ?_
          refine wp_isub (t := 33) rfl ?_
          refine wp_ldc (100000) (t := 34) rfl (wsL_law_r38_l (List.mem_of_getElem? (i := 3) rfl)) (by decide) ?_
          refine wp_iadd (t := 35) rfl ?_
          refine wp_ireturn (t := 36) rfl rfl ?_
          exact ⟨_, rfl, Or.inr ⟨⟨by omega, by omega⟩, ff, ca40, _, _, _, _, cb, cb2, by rw [if_neg (fun q => by omega)]⟩, rfl⟩
        · refine wp_bipush (t := 29) rfl (by decide) ?_
          refine wp_ireturn (t := 30) rfl rfl ?_
          exact ⟨_, rfl, Or.inr ⟨⟨by omega, by omega⟩, ff, ca40, _, _, _, _, cb, cb2, (if_pos (Or.inr (by omega))).symm⟩, rfl⟩
    · refine wp_iconst (t := 7) rfl ?_
      refine wp_ireturn (t := 8) rfl rfl ?_
      exact ⟨_, rfl, Or.inl ⟨by omega, rfl, rfl⟩, rfl⟩
