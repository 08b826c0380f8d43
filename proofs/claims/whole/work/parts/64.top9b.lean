/-! the class's own methods: acts -/
theorem zcp_na {I : zMem} {a b c : Nat} {sp dp m : Int} (h : c ≠ b) : zcp I a sp b dp m c = I c := funext fun j => if_neg (fun q => h q.1)
theorem zwr_na {I : zMem} {p r b : Nat} (h : b ≠ r) : zwr I p r b = I b := by
  unfold zwr
  rw [zcp_na h, zcp_na h, zcp_na h, zcp_na h]
theorem zwr_at {I : zMem} {p r : Nat} (h : ∀ k : Nat, 1 ≤ k → k ≤ 4 → p + k ≠ r) {j : Int} (j0 : 0 ≤ j) (j1 : j < 6) : zwr I p r r j = I (p + 1) j ∧ zwr I p r r (6 + j) = I (p + 2) j ∧ zwr I p r r (12 + j) = I (p + 3) j ∧ zwr I p r r (18 + j) = I (p + 4) j := by
  have h1 := h 1 (by decide) (by decide)
  have h2 := h 2 (by decide) (by decide)
  have h3 := h 3 (by decide) (by decide)
  have h4 := h 4 (by decide) (by decide)
  unfold zwr
  refine ⟨?_, ?_, ?_, ?_⟩
  · unfold zcp
    rw [if_neg (fun q => by omega), if_neg (fun q => by omega), if_neg (fun q => by omega), if_pos ⟨rfl, j0, by omega⟩, show (0 : Int) + (j - 0) = j by omega]
  · rw [show zcp (zcp (zcp (zcp I (p + 1) 0 r 0 6) (p + 2) 0 r 6 6) (p + 3) 0 r 12 6) (p + 4) 0 r 18 6 r (6 + j) = zcp I (p + 1) 0 r 0 6 (p + 2) j by
      rw [show zcp (zcp (zcp (zcp I (p + 1) 0 r 0 6) (p + 2) 0 r 6 6) (p + 3) 0 r 12 6) (p + 4) 0 r 18 6 r (6 + j) = zcp (zcp I (p + 1) 0 r 0 6) (p + 2) 0 r 6 6 r (6 + j) from (if_neg (fun q => by omega)).trans (if_neg (fun q => by omega))]
      refine (if_pos ⟨rfl, by omega, by omega⟩).trans ?_
      rw [show (0 : Int) + (6 + j - 6) = j by omega]]
    rw [zcp_na h2]
  · rw [show zcp (zcp (zcp (zcp I (p + 1) 0 r 0 6) (p + 2) 0 r 6 6) (p + 3) 0 r 12 6) (p + 4) 0 r 18 6 r (12 + j) = zcp (zcp I (p + 1) 0 r 0 6) (p + 2) 0 r 6 6 (p + 3) j by
      refine (if_neg (fun q => by omega)).trans ((if_pos ⟨rfl, by omega, by omega⟩).trans ?_)
      rw [show (0 : Int) + (12 + j - 12) = j by omega]]
    rw [zcp_na h3, zcp_na h3]
  · rw [show zcp (zcp (zcp (zcp I (p + 1) 0 r 0 6) (p + 2) 0 r 6 6) (p + 3) 0 r 12 6) (p + 4) 0 r 18 6 r (18 + j) = zcp (zcp (zcp I (p + 1) 0 r 0 6) (p + 2) 0 r 6 6) (p + 3) 0 r 12 6 (p + 4) j by
      refine (if_pos ⟨rfl, by omega, by omega⟩).trans ?_
      rw [show (0 : Int) + (18 + j - 18) = j by omega]]
    rw [zcp_na h4, zcp_na h4, zcp_na h4]
theorem zrd_na {I : zMem} {p r b : Nat} (h1 : b ≠ p + 1) (h2 : b ≠ p + 2) (h3 : b ≠ p + 3) (h4 : b ≠ p + 4) : zrd I p r b = I b := by
  unfold zrd
  rw [zcp_na h4, zcp_na h3, zcp_na h2, zcp_na h1]
theorem zrd_at {I : zMem} {p r : Nat} (h : ∀ k : Nat, 1 ≤ k → k ≤ 4 → r ≠ p + k) {j : Int} (j0 : 0 ≤ j) (j1 : j < 6) : zrd I p r (p + 1) j = I r j ∧ zrd I p r (p + 2) j = I r (6 + j) ∧ zrd I p r (p + 3) j = I r (12 + j) ∧ zrd I p r (p + 4) j = I r (18 + j) := by
  have h1 := h 1 (by decide) (by decide)
  have h2 := h 2 (by decide) (by decide)
  have h3 := h 3 (by decide) (by decide)
  have h4 := h 4 (by decide) (by decide)
  unfold zrd
  refine ⟨?_, ?_, ?_, ?_⟩
  · rw [zcp_na (by omega), zcp_na (by omega), zcp_na (by omega)]
    refine (if_pos ⟨rfl, j0, by omega⟩).trans ?_
    rw [show (0 : Int) + (j - 0) = j by omega]
  · rw [zcp_na (by omega), zcp_na (by omega)]
    refine (if_pos ⟨rfl, j0, by omega⟩).trans ?_
    rw [show (6 : Int) + (j - 0) = 6 + j by omega, zcp_na h1]
  · rw [zcp_na (by omega)]
    refine (if_pos ⟨rfl, j0, by omega⟩).trans ?_
    rw [show (12 : Int) + (j - 0) = 12 + j by omega, zcp_na h2, zcp_na h1]
  · refine (if_pos ⟨rfl, j0, by omega⟩).trans ?_
    rw [show (18 : Int) + (j - 0) = 18 + j by omega, zcp_na h3, zcp_na h2, zcp_na h1]
theorem sTold_in {I : zMem} {r c w t : Int} (hch : zCh I) (hpl : zPl I 64) (ht : 0 ≤ t ∧ t ≤ 1010000) (hc : 0 ≤ c ∧ c < I 34 2) (hw : 1 ≤ w ∧ w ≤ I 34 0) : zin (sTold (cS I 64) r c w t) := by
  have f5 := (cS_facts hch hpl).2.2.2.2.1 c w hc.1 hc.2 hw.1 hw.2
  have hN : sN (cS I 64) ≤ 1000000 := by show I 34 2 ≤ 1000000; have := hch.1; omega
  unfold sTold
  split
  · exact sNot_in hN
  · split
    · exact sBeg_in hN
    · split
      · exact sOver_in ht.1 (by omega) (by omega)
      · split
        · exact sOver_in ht.1 (by omega) (by omega)
        · unfold zin; omega
/-- what comes of remembering -/
def cRem (I I' : zMem) (R R' : zRef) (rho : Int → Nat) (n : Nat) : Prop := zPush 95 8 (zwr I 64 94) I' R' rho 94 ∧ zWir n R' ∧ ∀ b : Nat, b ≠ 96 → R' b = R b
set_option maxHeartbeats 4000000 in
set_option maxRecDepth 100000 in
theorem c_X9_remember {G : zG} {d n : Nat} {I : zMem} {R : zRef} {rho : Int → Nat} (hW : zWir n R) (hn : 115 ≤ n) (hsh : zShf 95 8 R rho) (hh : 0 ≤ I 95 1 ∧ I 95 1 ≤ 8) : MT G mX9_remember (d + 2) 0 0 [zR 0] n I R (zP0 (fun I' R' => cRem I I' R R' rho n)) := by
  refine MT.of (by decide +kernel) tX9_remember_ok (Nat.le_of_ble_eq_true rfl) (fun hI0 => ?_)
  refine wp_ls (ls' := [some (zR 0)]) rfl ?_
  refine wp_aload_n (t := 0) rfl rfl ?_
  refine wp_getR (t := 1) (ji := 4) rfl fX9_40 rfl rfl (by omega) (by first | rfl | assumption) (by first | exact hW _ _ _ (by omega) rfl | assumption) ?_
  refine wp_aload_n (t := 2) rfl rfl ?_
  refine wp_getR (t := 3) (ji := 7) rfl fX9_58 rfl rfl (by omega) (by first | rfl | assumption) (by first | exact hW _ _ _ (by omega) rfl | assumption) ?_
  refine wp_vv (ci := 3) (c_X3_writeTo (p := 64) (r := 94) (d := d) (Or.inl rfl) hW hn (by omega) rfl) (t := 4) rfl kX9_190 rfl rfl (by omega) (by first | rfl | assumption) ⟨_, _, rfl⟩ (Nat.le_of_ble_eq_true rfl) ⟨Nat.le_refl _, Nat.le_refl _⟩ (fun I8 R8 c8 => ?_)
  refine wp_canon (fun hI1 => ?_)
  obtain ⟨zi8, zr8⟩ := c8
  have zr8 := zr8.symm
  subst zr8
  subst zi8
  refine wp_aload_n (t := 5) rfl rfl ?_
  refine wp_getR (t := 6) (ji := 8) rfl fX9_67 rfl rfl (by omega) (by first | rfl | assumption) (by first | exact hW _ _ _ (by omega) rfl | assumption) ?_
  refine wp_aload_n (t := 7) rfl rfl ?_
  refine wp_getR (t := 8) (ji := 7) rfl fX9_58 rfl rfl (by omega) (by first | rfl | assumption) (by first | exact hW _ _ _ (by omega) rfl | assumption) ?_
  refine wp_vv (ci := 6) (c_X6_push (o := 95) (m := 8) (d := d) (Or.inl ⟨rfl, rfl⟩) hW hn hsh (by rw [zwr_na (by decide)]; exact hh)) (t := 9) rfl kX9_206 rfl rfl (by omega) (by first | rfl | assumption) ⟨_, _, rfl⟩ (Nat.le_of_ble_eq_true rfl) ⟨Nat.le_refl _, Nat.le_refl _⟩ (fun I19 R19 c19 => ?_)
  refine wp_canon (fun hI2 => ?_)
  obtain ⟨p19, w19, f19⟩ := c19
  refine wp_return (t := 10) rfl rfl ?_
  exact ⟨rfl, p19, w19, f19⟩
theorem zPush_na {o m : Nat} {I I' : zMem} {R' : zRef} {rho : Int → Nat} {r : Nat} (h : zPush o m I I' R' rho r) : ∀ b : Nat, (b < o ∨ o + 2 + m ≤ b) → I' b = I b := h.choose_spec.2.2.2.2
theorem cRem_na {I I' : zMem} {R R' : zRef} {rho : Int → Nat} {n : Nat} (h : cRem I I' R R' rho n) : ∀ b : Nat, b ≠ 94 → (b < 95 ∨ 105 ≤ b) → I' b = I b := fun b h1 h2 => (zPush_na h.1 b h2).trans (zwr_na h1)
theorem cRem_S {I I' : zMem} {R R' : zRef} {rho : Int → Nat} {n : Nat} (h : cRem I I' R R' rho n) : cS I' 64 = cS I 64 := by
  have q := cRem_na h
  exact cS_ext (q _ (by decide) (by decide)) (q _ (by decide) (by decide)) (q _ (by decide) (by decide)) (fun b _ _ => q b (by omega) (by omega)) (q _ (by decide) (by decide)) (q _ (by decide) (by decide)) (q _ (by decide) (by decide)) (q _ (by decide) (by decide)) (q _ (by decide) (by decide))
/-- what put() does in the class -/
def cPutP (I : zMem) (R : zRef) (rho : Int → Nat) (n : Nat) (c w t r : Int) (I' : zMem) (R' : zRef) : Prop :=
  (¬ ((0 ≤ c ∧ c < I 34 2) ∧ (1 ≤ w ∧ w ≤ I 34 0) ∧ 0 ≤ t ∧ t ≤ 99999) ∧ r = -1 ∧ I' = I ∧ R' = R) ∨
  (((0 ≤ c ∧ c < I 34 2) ∧ (1 ≤ w ∧ w ≤ I 34 0) ∧ 0 ≤ t ∧ t ≤ 99999) ∧
    ((0 < I 66 c ∧ r = -2 ∧ I' = I ∧ R' = R) ∨
     (¬ 0 < I 66 c ∧ ¬ sRea (cS I 64) c w t = 0 ∧ r = -2 ∧ (I' 109 1 = 3 ∧ I' 110 0 = 10 + c ∧ I' 110 1 = sRea (cS I 64) c w t ∧ I' 110 2 = sTold (cS I 64) (sRea (cS I 64) c w t) c w t ∧ ∀ b : Nat, b ≠ 109 → b ≠ 110 → I' b = I b) ∧ R' = R) ∨
     (¬ 0 < I 66 c ∧ sRea (cS I 64) c w t = 0 ∧ ∃ K : zMem, cRem I K R R' rho n ∧ I' = zput K 64 c w t ∧ r = sLen (sPut (cS I 64) c w t) (I 34 2).toNat)))
theorem zPl_64 {I J : zMem} (h : ∀ b : Nat, b ≠ 94 → (b < 95 ∨ 105 ≤ b) → J b = I b) (hc : zCh I) (hp : zPl I 64) : zCh J ∧ zPl J 64 := ⟨zCh_ext (fun b b1 b2 => h b (by omega) (by omega)) hc, zPl_ext (h _ (by decide) (by decide)) (h _ (by decide) (by decide)) (h _ (by decide) (by decide)) (h _ (by decide) (by decide)) (h _ (by decide) (by decide)) (h _ (by decide) (by decide)) hp⟩
set_option maxHeartbeats 4000000 in
set_option maxRecDepth 100000 in
theorem c_X9_put {G : zG} {d n : Nat} {I : zMem} {R : zRef} {rho : Int → Nat} {c w t : Int} (hW : zWir n R) (hn : 115 ≤ n) (hch : zCh I) (hpl : zPl I 64) (hsh : zShf 95 8 R rho) (hh : 0 ≤ I 95 1 ∧ I 95 1 ≤ 8) (hc : zin c) (hw : zin w) (ht : zin t) : MT G mX9_put (d + 4) 0 0 [zR 0, zI c, zI w, zI t] n I R (zP1 (fun r I' R' => cPutP I R rho n c w t r I' R')) := by
  refine MT.of (by decide +kernel) tX9_put_ok (Nat.le_of_ble_eq_true rfl) (fun hI0 => ?_)
  have hco := hch.1
  have hli := hch.2.1
  refine wp_ls (ls' := [some (zR 0), some (zI c), some (zI w), some (zI t), none]) rfl ?_
  refine wp_aload_n (t := 0) rfl rfl ?_
  refine wp_iload_n (t := 1) rfl rfl ?_
  refine wp_vi (ci := 9) (c_X9_isCore (d := d + 3) hW hn hc) (t := 2) rfl kX9_116 rfl rfl (by omega) (by first | rfl | assumption) ⟨_, _, rfl⟩ (Nat.le_of_ble_eq_true rfl) ⟨Nat.le_refl _, Nat.le_refl _⟩ (fun r2 I2 R2 c2 => ?_)
  refine wp_canon (fun hI1 => ?_)
  obtain ⟨e2, zi2, zr2⟩ := c2
  have zi2 := zi2.symm
  subst zi2
  have zr2 := zr2.symm
  subst zr2
  have b2 : 0 ≤ r2 ∧ r2 ≤ 1 := by rw [e2]; split <;> omega
  have n2 : ¬ r2 = 0 → 0 ≤ c ∧ c < I 34 2 := fun h => by (rw [e2] at h; by_cases q : 0 ≤ c ∧ c < I 34 2; exact q; rw [if_neg q] at h; exact absurd rfl h)
  have m2 : r2 = 0 → ¬ (0 ≤ c ∧ c < I 34 2) := fun h q => by (rw [e2, if_pos q] at h; exact absurd h (by decide))
  refine wp_if_eq (t := 3) (tgt := 23) rfl (by decide) (by first | assumption | exact hI1 _ _ | exact hI0 _ _ | exact zin_and _ _ | (unfold zin; omega) | (unfold zin at *; omega)) (fun h5 => ?_) (fun h5 => ?_)
  · refine wp_iconst (t := 11) rfl ?_
    refine wp_ireturn (t := 12) rfl rfl ?_
    exact ⟨_, rfl, Or.inl ⟨fun q => m2 h5 q.1, rfl, rfl, rfl⟩⟩
  · refine wp_aload_n (t := 4) rfl rfl ?_
    refine wp_iload_n (t := 5) rfl rfl ?_
    refine wp_vi (ci := 9) (c_X9_isWidth (d := d + 3) hW hn hw) (t := 6) rfl kX9_149 rfl rfl (by omega) (by first | rfl | assumption) ⟨_, _, rfl⟩ (Nat.le_of_ble_eq_true rfl) ⟨Nat.le_refl _, Nat.le_refl _⟩ (fun r10 I10 R10 c10 => ?_)
    refine wp_canon (fun hI2 => ?_)
    obtain ⟨e10, zi10, zr10⟩ := c10
    have zi10 := zi10.symm
    subst zi10
    have zr10 := zr10.symm
    subst zr10
    have b10 : 0 ≤ r10 ∧ r10 ≤ 1 := by rw [e10]; split <;> omega
    have n10 : ¬ r10 = 0 → 1 ≤ w ∧ w ≤ I 34 0 := fun h => by (rw [e10] at h; by_cases q : 1 ≤ w ∧ w ≤ I 34 0; exact q; rw [if_neg q] at h; exact absurd rfl h)
    have m10 : r10 = 0 → ¬ (1 ≤ w ∧ w ≤ I 34 0) := fun h q => by (rw [e10, if_pos q] at h; exact absurd h (by decide))
    refine wp_if_eq (t := 7) (tgt := 23) rfl (by decide) (by first | assumption | exact hI2 _ _ | exact hI1 _ _ | exact hI0 _ _ | exact zin_and _ _ | (unfold zin; omega) | (unfold zin at *; omega)) (fun h13 => ?_) (fun h13 => ?_)
    · refine wp_iconst (t := 11) rfl ?_
      refine wp_ireturn (t := 12) rfl rfl ?_
      exact ⟨_, rfl, Or.inl ⟨fun q => m10 h13 q.2.1, rfl, rfl, rfl⟩⟩
    · refine wp_iload_n (t := 8) rfl rfl ?_
      refine wp_si (c_X9_isCycle (d := d + 3) ht) (t := 9) rfl kX9_165 rfl rfl (Nat.le_of_ble_eq_true rfl) ⟨Nat.le_refl _, Nat.le_refl _⟩ (fun r17 I17 R17 c17 => ?_)
      refine wp_canon (fun hI3 => ?_)
      obtain ⟨e17, zi17, zr17⟩ := c17
      have zi17 := zi17.symm
      subst zi17
      have zr17 := zr17.symm
      subst zr17
      have b17 : 0 ≤ r17 ∧ r17 ≤ 1 := by rw [e17]; split <;> omega
      have n17 : ¬ r17 = 0 → 0 ≤ t ∧ t ≤ 99999 := fun h => by (rw [e17] at h; by_cases q : 0 ≤ t ∧ t ≤ 99999; exact q; rw [if_neg q] at h; exact absurd rfl h)
      have m17 : r17 = 0 → ¬ (0 ≤ t ∧ t ≤ 99999) := fun h q => by (rw [e17, if_pos q] at h; exact absurd h (by decide))
      refine wp_if_ne (t := 10) (tgt := 25) rfl (by decide) (by first | assumption | exact hI3 _ _ | exact hI2 _ _ | exact hI1 _ _ | exact hI0 _ _ | exact zin_and _ _ | (unfold zin; omega) | (unfold zin at *; omega)) (fun h20 => ?_) (fun h20 => ?_)
      · have cc := n2 (by assumption)
        have ww := n10 (by assumption)
        have tt := n17 (by assumption)
        have hcc := hch.2.2.2.2.1 c cc.1 cc.2
        have hlo := hcc.2.2.2.2 w ww.1 ww.2
        refine wp_aload_n (t := 13) rfl rfl ?_
        refine wp_getR (t := 14) (ji := 4) rfl fX9_40 rfl rfl (by omega) (by first | rfl | assumption) (by first | exact hW _ _ _ (by omega) rfl | assumption) ?_
        refine wp_iload_n (t := 15) rfl rfl ?_
        refine wp_vi (ci := 3) (c_X3_isPut (p := 64) (d := d + 3) (Or.inl rfl) hW hn ⟨by omega, by omega⟩) (t := 16) rfl kX9_132 rfl rfl (by omega) (by first | rfl | assumption) ⟨_, _, rfl⟩ (Nat.le_of_ble_eq_true rfl) ⟨Nat.le_refl _, Nat.le_refl _⟩ (fun r30 I30 R30 c30 => ?_)
        refine wp_canon (fun hI4 => ?_)
        obtain ⟨e30, zi30, zr30⟩ := c30
        have zi30 := zi30.symm
        subst zi30
        have zr30 := zr30.symm
        subst zr30
        have b30 : 0 ≤ r30 ∧ r30 ≤ 1 := by rw [e30]; split <;> omega
        have n30 : ¬ r30 = 0 → 0 < I 66 c := fun h => by (rw [e30] at h; by_cases q : 0 < I 66 c; exact q; rw [if_neg q] at h; exact absurd rfl h)
        have m30 : r30 = 0 → ¬ (0 < I 66 c) := fun h q => by (rw [e30, if_pos q] at h; exact absurd h (by decide))
        refine wp_if_eq (t := 17) (tgt := 39) rfl (by decide) (by first | assumption | exact hI4 _ _ | exact hI3 _ _ | exact hI2 _ _ | exact hI1 _ _ | exact hI0 _ _ | exact zin_and _ _ | (unfold zin; omega) | (unfold zin at *; omega)) (fun h33 => ?_) (fun h33 => ?_)
        · refine wp_aload_n (t := 20) rfl rfl ?_
          refine wp_getR (t := 21) (ji := 4) rfl fX9_40 rfl rfl (by omega) (by first | rfl | assumption) (by first | exact hW _ _ _ (by omega) rfl | assumption) ?_
          refine wp_iload_n (t := 22) rfl rfl ?_
          refine wp_iload_n (t := 23) rfl rfl ?_
          refine wp_iload_n (t := 24) rfl rfl ?_
          refine wp_vi (ci := 3) (c_X3_reason (p := 64) (d := d) (Or.inl rfl) hW hn hch hpl cc ww ⟨by omega, by omega⟩) (t := 25) rfl kX9_168 rfl rfl (by omega) (by first | rfl | assumption) ⟨_, _, rfl⟩ (Nat.le_of_ble_eq_true rfl) ⟨Nat.le_refl _, Nat.le_refl _⟩ (fun r46 I46 R46 c46 => ?_)
          refine wp_canon (fun hI5 => ?_)
          obtain ⟨e46, zi46, zr46⟩ := c46
          have zi46 := zi46.symm
          subst zi46
          have zr46 := zr46.symm
          subst zr46
          have b46 : 0 ≤ r46 ∧ r46 ≤ 4 := by rw [e46]; exact sRea_b _ _ _ _
          refine wp_istore (t := 26) rfl (by decide) rfl ?_
          refine wp_iload (t := 27) rfl rfl ?_
          refine wp_if_eq (t := 28) (tgt := 81) rfl (by decide) (by first | assumption | exact hI5 _ _ | exact hI4 _ _ | exact hI3 _ _ | exact hI2 _ _ | exact hI1 _ _ | exact hI0 _ _ | exact zin_and _ _ | (unfold zin; omega) | (unfold zin at *; omega)) (fun h53 => ?_) (fun h53 => ?_)
          · refine wp_aload_n (t := 43) rfl rfl ?_
            refine wp_vv (ci := 9) (c_X9_remember (d := d + 1) hW hn hsh hh) (t := 44) rfl kX9_180 rfl rfl (by omega) (by first | rfl | assumption) ⟨_, _, rfl⟩ (Nat.le_of_ble_eq_true rfl) ⟨Nat.le_refl _, Nat.le_refl _⟩ (fun I82 R82 c82 => ?_)
            refine wp_canon (fun hI6 => ?_)
            have nx := cRem_na c82
            have p82 := zPl_64 nx hch hpl
            have S82 := cRem_S c82
            have W82 : zWir n R82 := c82.2.1
            have w04 : R82 0 4 = some 64 := W82 0 4 _ (by omega) rfl
            have i34 : I82 34 = I 34 := nx 34 (by decide) (by decide)
            have i36 : I82 36 = I 36 := nx 36 (by decide) (by decide)
            have i49 : I82 (49 + c.toNat) = I (49 + c.toNat) := nx _ (by omega) (by omega)
            refine wp_aload_n (t := 45) rfl rfl ?_
            refine wp_getR (t := 46) (ji := 4) rfl fX9_40 rfl rfl (by omega) (by first | rfl | assumption) (by first | exact hW _ _ _ (by omega) rfl | assumption) ?_
            refine wp_iload_n (t := 47) rfl rfl ?_
            refine wp_iload_n (t := 48) rfl rfl ?_
            refine wp_iload_n (t := 49) rfl rfl ?_
            refine wp_vv (ci := 3) (c_X3_place (p := 64) (d := d) (Or.inl rfl) W82 hn ⟨by omega, by omega⟩ ⟨by omega, by omega⟩ (by rw [i36]; exact hcc.1) (by rw [i49]; exact hlo) ⟨by omega, by omega⟩) (t := 50) rfl kX9_183 rfl rfl (by omega) (by first | rfl | assumption) ⟨_, _, rfl⟩ (Nat.le_of_ble_eq_true rfl) ⟨Nat.le_refl _, Nat.le_refl _⟩ (fun I92 R92 c92 => ?_)
            refine wp_canon (fun hI7 => ?_)
            obtain ⟨zi92, zr92⟩ := c92
            have zr92 := zr92.symm
            subst zr92
            have zi92 : I92 = zput I82 64 c w t := zi92
            have i92 : I92 34 = I 34 := by rw [zi92, zput_b (by decide) (by decide) (by decide)]; exact i34
            have u92 : ∀ a : Int, 0 ≤ a → a < I92 34 2 → 0 ≤ I92 68 a ∧ I92 68 a ≤ 1010000 := fun a a0 a1 => by
              rw [i92] at a1
              rw [zi92]
              obtain ⟨-, -, q3, -⟩ := zu3_eq (I := I82) (p := 64) (c := c) (w := w) (t := t) (u := t + sT (cS I82 64) c w)
              have q3 : zput I82 64 c w t 68 = fun j => if j = c then t + sT (cS I82 64) c w else I82 68 j := q3
              rw [q3, nx 68 (by decide) (by decide), S82]
              have := (hpl a a0 a1).2.2.2.1
              have tb := (cS_facts hch hpl).2.2.2.2.1 c w cc.1 cc.2 ww.1 ww.2
              dsimp only
              split
              · omega
              · exact this
            refine wp_aload_n (t := 51) rfl rfl ?_
            refine wp_getR (t := 52) (ji := 4) rfl fX9_40 rfl rfl (by omega) (by first | rfl | assumption) (by first | exact hW _ _ _ (by omega) rfl | assumption) ?_
            refine wp_vi (ci := 3) (c_X3_length (p := 64) (d := d + 2) (Or.inl rfl) W82 hn (by rw [i92]; omega) u92) (t := 53) rfl kX9_186 rfl rfl (by omega) (by first | rfl | assumption) ⟨_, _, rfl⟩ (Nat.le_of_ble_eq_true rfl) ⟨Nat.le_refl _, Nat.le_refl _⟩ (fun r99 I99 R99 c99 => ?_)
            refine wp_canon (fun hI8 => ?_)
            obtain ⟨e99, zi99, zr99⟩ := c99
            have zi99 := zi99.symm
            subst zi99
            have zr99 := zr99.symm
            subst zr99
            refine wp_ireturn (t := 54) rfl rfl ?_
            refine ⟨_, rfl, Or.inr ⟨⟨cc, ww, tt⟩, Or.inr (Or.inr ⟨m30 (by omega), by omega, I82, c82, zi92, ?_⟩)⟩⟩
            rw [e99, i92, zi92]
            have := cS_put (I := I82) (p := 64) (c := c) (w := w) (t := t) (Or.inl rfl)
            have this : cS (zput I82 64 c w t) 64 = sPut (cS I82 64) c w t := this
            rw [this, S82]
          · refine wp_aload_n (t := 29) rfl rfl ?_
            refine wp_getR (t := 30) (ji := 10) rfl fX9_77 rfl rfl (by omega) (by first | rfl | assumption) (by first | exact hW _ _ _ (by omega) rfl | assumption) ?_
            refine wp_iload_n (t := 31) rfl rfl ?_
            refine wp_iload (t := 32) rfl rfl ?_
            refine wp_aload_n (t := 33) rfl rfl ?_
            refine wp_getR (t := 34) (ji := 4) rfl fX9_40 rfl rfl (by omega) (by first | rfl | assumption) (by first | exact hW _ _ _ (by omega) rfl | assumption) ?_
            refine wp_iload (t := 35) rfl rfl ?_
            refine wp_iload_n (t := 36) rfl rfl ?_
            refine wp_iload_n (t := 37) rfl rfl ?_
            refine wp_iload_n (t := 38) rfl rfl ?_
            refine wp_vi (ci := 3) (c_X3_toldBy (p := 64) (d := d) (Or.inl rfl) hW hn hch hpl (by unfold zin; omega) cc ww ⟨by omega, by omega⟩) (t := 39) rfl kX9_172 rfl rfl (by omega) (by first | rfl | assumption) ⟨_, _, rfl⟩ (Nat.le_of_ble_eq_true rfl) ⟨Nat.le_refl _, Nat.le_refl _⟩ (fun r72 I72 R72 c72 => ?_)
            refine wp_canon (fun hI6 => ?_)
            obtain ⟨e72, zi72, zr72⟩ := c72
            have zi72 := zi72.symm
            subst zi72
            have zr72 := zr72.symm
            subst zr72
            refine wp_vv (ci := 1) (c_X1_ofPut (d := d + 2) hW hn ⟨by omega, by omega⟩ (by unfold zin; omega) (by rw [e72]; exact sTold_in hch hpl ⟨by omega, by omega⟩ cc ww)) (t := 40) rfl kX9_176 rfl rfl (by omega) (by first | rfl | assumption) ⟨_, _, rfl⟩ (Nat.le_of_ble_eq_true rfl) ⟨Nat.le_refl _, Nat.le_refl _⟩ (fun I75 R75 c75 => ?_)
            refine wp_canon (fun hI7 => ?_)
            obtain ⟨c75, zr75⟩ := c75
            have zr75 := zr75.symm
            subst zr75
            refine wp_bipush (t := 41) rfl (by decide) ?_
            refine wp_ireturn (t := 42) rfl rfl ?_
            exact ⟨_, rfl, Or.inr ⟨⟨cc, ww, tt⟩, Or.inr (Or.inl ⟨m30 (by omega), by omega, rfl, by rw [← e46, ← e72]; exact c75, rfl⟩)⟩⟩
        · refine wp_bipush (t := 18) rfl (by decide) ?_
          refine wp_ireturn (t := 19) rfl rfl ?_
          exact ⟨_, rfl, Or.inr ⟨⟨cc, ww, tt⟩, Or.inl ⟨n30 h33, rfl, rfl, rfl⟩⟩⟩
      · refine wp_iconst (t := 11) rfl ?_
        refine wp_ireturn (t := 12) rfl rfl ?_
        exact ⟨_, rfl, Or.inl ⟨fun q => m17 (by omega) q.2.2, rfl, rfl, rfl⟩⟩
set_option maxHeartbeats 4000000 in
set_option maxRecDepth 100000 in
theorem c_X9_take {G : zG} {d n : Nat} {I : zMem} {R : zRef} {rho : Int → Nat} {c : Int} (hW : zWir n R) (hn : 115 ≤ n) (hch : zCh I) (hpl : zPl I 64) (hsh : zShf 95 8 R rho) (hh : 0 ≤ I 95 1 ∧ I 95 1 ≤ 8) (hc : zin c) : MT G mX9_take (d + 3) 0 0 [zR 0, zI c] n I R (zP1 (fun r I' R' => (¬ (0 ≤ c ∧ c < I 34 2) ∧ r = -1 ∧ I' = I ∧ R' = R) ∨ ((0 ≤ c ∧ c < I 34 2) ∧ ((¬ 0 < I 66 c ∧ r = -2 ∧ I' = I ∧ R' = R) ∨ (0 < I 66 c ∧ ∃ K : zMem, cRem I K R R' rho n ∧ I' = zu (zu (zu K 66 c 0) 67 c 0) 68 c 0 ∧ r = sLen (cS I' 64) (I 34 2).toNat))))) := by
  refine MT.of (by decide +kernel) tX9_take_ok (Nat.le_of_ble_eq_true rfl) (fun hI0 => ?_)
  have hco := hch.1
  refine wp_ls (ls' := [some (zR 0), some (zI c)]) rfl ?_
  refine wp_aload_n (t := 0) rfl rfl ?_
  refine wp_iload_n (t := 1) rfl rfl ?_
  refine wp_vi (ci := 9) (c_X9_isCore (d := d + 2) hW hn hc) (t := 2) rfl kX9_116 rfl rfl (by omega) (by first | rfl | assumption) ⟨_, _, rfl⟩ (Nat.le_of_ble_eq_true rfl) ⟨Nat.le_refl _, Nat.le_refl _⟩ (fun r2 I2 R2 c2 => ?_)
  refine wp_canon (fun hI1 => ?_)
  obtain ⟨e2, zi2, zr2⟩ := c2
  have zi2 := zi2.symm
  subst zi2
  have zr2 := zr2.symm
  subst zr2
  have b2 : 0 ≤ r2 ∧ r2 ≤ 1 := by rw [e2]; split <;> omega
  have n2 : ¬ r2 = 0 → 0 ≤ c ∧ c < I 34 2 := fun h => by (rw [e2] at h; by_cases q : 0 ≤ c ∧ c < I 34 2; exact q; rw [if_neg q] at h; exact absurd rfl h)
  have m2 : r2 = 0 → ¬ (0 ≤ c ∧ c < I 34 2) := fun h q => by (rw [e2, if_pos q] at h; exact absurd h (by decide))
  refine wp_if_ne (t := 3) (tgt := 10) rfl (by decide) (by first | assumption | exact hI1 _ _ | exact hI0 _ _ | exact zin_and _ _ | (unfold zin; omega) | (unfold zin at *; omega)) (fun h5 => ?_) (fun h5 => ?_)
  · have cc := n2 (by assumption)
    refine wp_aload_n (t := 6) rfl rfl ?_
    refine wp_getR (t := 7) (ji := 4) rfl fX9_40 rfl rfl (by omega) (by first | rfl | assumption) (by first | exact hW _ _ _ (by omega) rfl | assumption) ?_
    refine wp_iload_n (t := 8) rfl rfl ?_
    refine wp_vi (ci := 3) (c_X3_isPut (p := 64) (d := d + 2) (Or.inl rfl) hW hn ⟨by omega, by omega⟩) (t := 9) rfl kX9_132 rfl rfl (by omega) (by first | rfl | assumption) ⟨_, _, rfl⟩ (Nat.le_of_ble_eq_true rfl) ⟨Nat.le_refl _, Nat.le_refl _⟩ (fun r15 I15 R15 c15 => ?_)
    refine wp_canon (fun hI2 => ?_)
    obtain ⟨e15, zi15, zr15⟩ := c15
    have zi15 := zi15.symm
    subst zi15
    have zr15 := zr15.symm
    subst zr15
    have b15 : 0 ≤ r15 ∧ r15 ≤ 1 := by rw [e15]; split <;> omega
    have n15 : ¬ r15 = 0 → 0 < I 66 c := fun h => by (rw [e15] at h; by_cases q : 0 < I 66 c; exact q; rw [if_neg q] at h; exact absurd rfl h)
    have m15 : r15 = 0 → ¬ (0 < I 66 c) := fun h q => by (rw [e15, if_pos q] at h; exact absurd h (by decide))
    refine wp_if_ne (t := 10) (tgt := 24) rfl (by decide) (by first | assumption | exact hI2 _ _ | exact hI1 _ _ | exact hI0 _ _ | exact zin_and _ _ | (unfold zin; omega) | (unfold zin at *; omega)) (fun h18 => ?_) (fun h18 => ?_)
    · refine wp_aload_n (t := 13) rfl rfl ?_
      refine wp_vv (ci := 9) (c_X9_remember (d := d) hW hn hsh hh) (t := 14) rfl kX9_180 rfl rfl (by omega) (by first | rfl | assumption) ⟨_, _, rfl⟩ (Nat.le_of_ble_eq_true rfl) ⟨Nat.le_refl _, Nat.le_refl _⟩ (fun I25 R25 c25 => ?_)
      refine wp_canon (fun hI3 => ?_)
      have nx := cRem_na c25
      have W25 : zWir n R25 := c25.2.1
      have w04 : R25 0 4 = some 64 := W25 0 4 _ (by omega) rfl
      have i34 : I25 34 = I 34 := nx 34 (by decide) (by decide)
      refine wp_aload_n (t := 15) rfl rfl ?_
      refine wp_getR (t := 16) (ji := 4) rfl fX9_40 rfl rfl (by omega) (by first | rfl | assumption) (by first | exact hW _ _ _ (by omega) rfl | assumption) ?_
      refine wp_iload_n (t := 17) rfl rfl ?_
      refine wp_vv (ci := 3) (c_X3_takeOff (p := 64) (d := d + 2) (Or.inl rfl) W25 hn ⟨by omega, by omega⟩) (t := 18) rfl kX9_187 rfl rfl (by omega) (by first | rfl | assumption) ⟨_, _, rfl⟩ (Nat.le_of_ble_eq_true rfl) ⟨Nat.le_refl _, Nat.le_refl _⟩ (fun I33 R33 c33 => ?_)
      refine wp_canon (fun hI4 => ?_)
      obtain ⟨zi33, zr33⟩ := c33
      have zr33 := zr33.symm
      subst zr33
      have zi33 : I33 = zu (zu (zu I25 66 c 0) 67 c 0) 68 c 0 := zi33
      have i33 : I33 34 = I 34 := by rw [zi33, zu_ne (by decide), zu_ne (by decide), zu_ne (by decide)]; exact i34
      have u33 : ∀ a : Int, 0 ≤ a → a < I33 34 2 → 0 ≤ I33 68 a ∧ I33 68 a ≤ 1010000 := fun a a0 a1 => by
        rw [i33] at a1
        rw [zi33]
        have := (hpl a a0 a1).2.2.2.1
        by_cases e : a = c
        · rw [e, zu_eq]; omega
        · rw [zu_ni e, zu_ne (by decide), zu_ne (by decide), nx 68 (by decide) (by decide)]; exact this
      refine wp_aload_n (t := 19) rfl rfl ?_
      refine wp_getR (t := 20) (ji := 4) rfl fX9_40 rfl rfl (by omega) (by first | rfl | assumption) (by first | exact hW _ _ _ (by omega) rfl | assumption) ?_
      refine wp_vi (ci := 3) (c_X3_length (p := 64) (d := d + 1) (Or.inl rfl) W25 hn (by rw [i33]; omega) u33) (t := 21) rfl kX9_186 rfl rfl (by omega) (by first | rfl | assumption) ⟨_, _, rfl⟩ (Nat.le_of_ble_eq_true rfl) ⟨Nat.le_refl _, Nat.le_refl _⟩ (fun r40 I40 R40 c40 => ?_)
      refine wp_canon (fun hI5 => ?_)
      obtain ⟨e40, zi40, zr40⟩ := c40
      have zi40 := zi40.symm
      subst zi40
      have zr40 := zr40.symm
      subst zr40
      refine wp_ireturn (t := 22) rfl rfl ?_
      exact ⟨_, rfl, Or.inr ⟨cc, Or.inr ⟨n15 h18, I25, c25, zi33, by rw [e40, i33]⟩⟩⟩
    · refine wp_bipush (t := 11) rfl (by decide) ?_
      refine wp_ireturn (t := 12) rfl rfl ?_
      exact ⟨_, rfl, Or.inr ⟨cc, Or.inl ⟨m15 (by omega), rfl, rfl, rfl⟩⟩⟩
  · refine wp_iconst (t := 4) rfl ?_
    refine wp_ireturn (t := 5) rfl rfl ?_
    exact ⟨_, rfl, Or.inl ⟨m2 (by omega), rfl, rfl, rfl⟩⟩
set_option maxHeartbeats 4000000 in
set_option maxRecDepth 100000 in
theorem c_X9_rename {G : zG} {d n : Nat} {I : zMem} {R : zRef} {rho : Int → Nat} {c k : Int} (hW : zWir n R) (hn : 115 ≤ n) (hch : zCh I) (hsh : zShf 95 8 R rho) (hh : 0 ≤ I 95 1 ∧ I 95 1 ≤ 8) (hc : zin c) (hk : zin k) : MT G mX9_rename (d + 3) 0 0 [zR 0, zI c, zI k] n I R (zP1 (fun r I' R' => (¬ ((0 ≤ c ∧ c < I 34 2) ∧ 0 ≤ k ∧ k ≤ 3) ∧ r = -1 ∧ I' = I ∧ R' = R) ∨ (((0 ≤ c ∧ c < I 34 2) ∧ 0 ≤ k ∧ k ≤ 3) ∧ (((I 65 c = k ∨ 0 < I 66 c) ∧ r = -2 ∧ I' = I ∧ R' = R) ∨ (¬ (I 65 c = k ∨ 0 < I 66 c) ∧ r = I 65 c ∧ ∃ K : zMem, cRem I K R R' rho n ∧ I' = zu K 65 c k))))) := by
  refine MT.of (by decide +kernel) tX9_rename_ok (Nat.le_of_ble_eq_true rfl) (fun hI0 => ?_)
  have hco := hch.1
  refine wp_ls (ls' := [some (zR 0), some (zI c), some (zI k), none]) rfl ?_
  refine wp_aload_n (t := 0) rfl rfl ?_
  refine wp_iload_n (t := 1) rfl rfl ?_
  refine wp_vi (ci := 9) (c_X9_isCore (d := d + 2) hW hn hc) (t := 2) rfl kX9_116 rfl rfl (by omega) (by first | rfl | assumption) ⟨_, _, rfl⟩ (Nat.le_of_ble_eq_true rfl) ⟨Nat.le_refl _, Nat.le_refl _⟩ (fun r2 I2 R2 c2 => ?_)
  refine wp_canon (fun hI1 => ?_)
  obtain ⟨e2, zi2, zr2⟩ := c2
  have zi2 := zi2.symm
  subst zi2
  have zr2 := zr2.symm
  subst zr2
  have b2 : 0 ≤ r2 ∧ r2 ≤ 1 := by rw [e2]; split <;> omega
  have n2 : ¬ r2 = 0 → 0 ≤ c ∧ c < I 34 2 := fun h => by (rw [e2] at h; by_cases q : 0 ≤ c ∧ c < I 34 2; exact q; rw [if_neg q] at h; exact absurd rfl h)
  have m2 : r2 = 0 → ¬ (0 ≤ c ∧ c < I 34 2) := fun h q => by (rw [e2, if_pos q] at h; exact absurd h (by decide))
  refine wp_if_eq (t := 3) (tgt := 17) rfl (by decide) (by first | assumption | exact hI1 _ _ | exact hI0 _ _ | exact zin_and _ _ | (unfold zin; omega) | (unfold zin at *; omega)) (fun h5 => ?_) (fun h5 => ?_)
  · refine wp_iconst (t := 9) rfl ?_
    refine wp_ireturn (t := 10) rfl rfl ?_
    exact ⟨_, rfl, Or.inl ⟨fun q => m2 h5 q.1, rfl, rfl, rfl⟩⟩
  · refine wp_iload_n (t := 4) rfl rfl ?_
    refine wp_if_lt (t := 5) (tgt := 17) rfl (by decide) (by first | assumption | exact hI1 _ _ | exact hI0 _ _ | exact zin_and _ _ | (unfold zin; omega) | (unfold zin at *; omega)) (fun h9 => ?_) (fun h9 => ?_)
    · refine wp_iconst (t := 9) rfl ?_
      refine wp_ireturn (t := 10) rfl rfl ?_
      exact ⟨_, rfl, Or.inl ⟨fun q => by omega, rfl, rfl, rfl⟩⟩
    · refine wp_iload_n (t := 6) rfl rfl ?_
      refine wp_iconst (t := 7) rfl ?_
      refine wp_icmp_lt (t := 8) (tgt := 19) rfl (by decide) (by first | assumption | exact hI1 _ _ | exact hI0 _ _ | exact zin_and _ _ | (unfold zin; omega) | (unfold zin at *; omega)) (by first | assumption | exact hI1 _ _ | exact hI0 _ _ | exact zin_and _ _ | (unfold zin; omega) | (unfold zin at *; omega)) (fun h14 => ?_) (fun h14 => ?_)
      · have cc := n2 (by assumption)
        refine wp_aload_n (t := 11) rfl rfl ?_
        refine wp_getR (t := 12) (ji := 4) rfl fX9_40 rfl rfl (by omega) (by first | rfl | assumption) (by first | exact hW _ _ _ (by omega) rfl | assumption) ?_
        refine wp_getR (t := 13) (ji := 1) rfl fX9_120 rfl rfl (by omega) (by first | rfl | assumption) (by first | exact hW _ _ _ (by omega) rfl | assumption) ?_
        refine wp_iload_n (t := 14) rfl rfl ?_
        refine wp_iaload (t := 15) rfl (by omega) (by first | rfl | assumption) (by omega) (by omega) (by omega) ?_
        refine wp_istore_n (t := 16) rfl (by decide) rfl ?_
        refine wp_iload_n (t := 17) rfl rfl ?_
        refine wp_iload_n (t := 18) rfl rfl ?_
        refine wp_icmp_eq (t := 19) (tgt := 45) rfl (by decide) (by first | assumption | exact hI1 _ _ | exact hI0 _ _ | exact zin_and _ _ | (unfold zin; omega) | (unfold zin at *; omega)) (by first | assumption | exact hI1 _ _ | exact hI0 _ _ | exact zin_and _ _ | (unfold zin; omega) | (unfold zin at *; omega)) (fun h31 => ?_) (fun h31 => ?_)
        · refine wp_bipush (t := 25) rfl (by decide) ?_
          refine wp_ireturn (t := 26) rfl rfl ?_
          exact ⟨_, rfl, Or.inr ⟨⟨cc, by omega, by omega⟩, Or.inl ⟨Or.inl (by omega), rfl, rfl, rfl⟩⟩⟩
        · refine wp_aload_n (t := 20) rfl rfl ?_
          refine wp_getR (t := 21) (ji := 4) rfl fX9_40 rfl rfl (by omega) (by first | rfl | assumption) (by first | exact hW _ _ _ (by omega) rfl | assumption) ?_
          refine wp_iload_n (t := 22) rfl rfl ?_
          refine wp_vi (ci := 3) (c_X3_isPut (p := 64) (d := d + 2) (Or.inl rfl) hW hn ⟨by omega, by omega⟩) (t := 23) rfl kX9_132 rfl rfl (by omega) (by first | rfl | assumption) ⟨_, _, rfl⟩ (Nat.le_of_ble_eq_true rfl) ⟨Nat.le_refl _, Nat.le_refl _⟩ (fun r39 I39 R39 c39 => ?_)
          refine wp_canon (fun hI2 => ?_)
          obtain ⟨e39, zi39, zr39⟩ := c39
          have zi39 := zi39.symm
          subst zi39
          have zr39 := zr39.symm
          subst zr39
          have b39 : 0 ≤ r39 ∧ r39 ≤ 1 := by rw [e39]; split <;> omega
          have n39 : ¬ r39 = 0 → 0 < I 66 c := fun h => by (rw [e39] at h; by_cases q : 0 < I 66 c; exact q; rw [if_neg q] at h; exact absurd rfl h)
          have m39 : r39 = 0 → ¬ (0 < I 66 c) := fun h q => by (rw [e39, if_pos q] at h; exact absurd h (by decide))
          refine wp_if_eq (t := 24) (tgt := 48) rfl (by decide) (by first | assumption | exact hI2 _ _ | exact hI1 _ _ | exact hI0 _ _ | exact zin_and _ _ | (unfold zin; omega) | (unfold zin at *; omega)) (fun h42 => ?_) (fun h42 => ?_)
          · refine wp_aload_n (t := 27) rfl rfl ?_
            refine wp_vv (ci := 9) (c_X9_remember (d := d) hW hn hsh hh) (t := 28) rfl kX9_180 rfl rfl (by omega) (by first | rfl | assumption) ⟨_, _, rfl⟩ (Nat.le_of_ble_eq_true rfl) ⟨Nat.le_refl _, Nat.le_refl _⟩ (fun I49 R49 c49 => ?_)
            refine wp_canon (fun hI3 => ?_)
            have W49 : zWir n R49 := c49.2.1
            have w04 : R49 0 4 = some 64 := W49 0 4 _ (by omega) rfl
            have w641 : R49 64 1 = some 65 := W49 64 1 _ (by omega) rfl
            refine wp_aload_n (t := 29) rfl rfl ?_
            refine wp_getR (t := 30) (ji := 4) rfl fX9_40 rfl rfl (by omega) (by first | rfl | assumption) (by first | exact hW _ _ _ (by omega) rfl | assumption) ?_
            refine wp_getR (t := 31) (ji := 1) rfl fX9_120 rfl rfl (by omega) (by first | rfl | assumption) (by first | exact hW _ _ _ (by omega) rfl | assumption) ?_
            refine wp_iload_n (t := 32) rfl rfl ?_
            refine wp_iload_n (t := 33) rfl rfl ?_
            refine wp_iastore (t := 34) rfl (by omega) (by first | rfl | assumption) (by omega) (by omega) (by omega) (by first | assumption | exact hI3 _ _ | exact hI2 _ _ | exact hI1 _ _ | exact hI0 _ _ | exact zin_and _ _ | (unfold zin; omega) | (unfold zin at *; omega)) ?_
            refine wp_canon (fun hI4 => ?_)
            refine wp_iload_n (t := 35) rfl rfl ?_
            refine wp_ireturn (t := 36) rfl rfl ?_
            exact ⟨_, rfl, Or.inr ⟨⟨cc, by omega, by omega⟩, Or.inr ⟨fun q => by rcases q with q | q; omega; exact m39 (by omega) q, rfl, I49, c49, rfl⟩⟩⟩
          · refine wp_bipush (t := 25) rfl (by decide) ?_
            refine wp_ireturn (t := 26) rfl rfl ?_
            exact ⟨_, rfl, Or.inr ⟨⟨cc, by omega, by omega⟩, Or.inl ⟨Or.inr (n39 h42), rfl, rfl, rfl⟩⟩⟩
      · refine wp_iconst (t := 9) rfl ?_
        refine wp_ireturn (t := 10) rfl rfl ?_
        exact ⟨_, rfl, Or.inl ⟨fun q => by omega, rfl, rfl, rfl⟩⟩
set_option maxHeartbeats 4000000 in
set_option maxRecDepth 100000 in
theorem c_X9_undo {G : zG} {d n : Nat} {I : zMem} {R : zRef} {rho : Int → Nat} (hW : zWir n R) (hn : 115 ≤ n) (hsh : zShf 95 8 R rho) (hh : 0 ≤ I 95 1 ∧ I 95 1 ≤ 8) : MT G mX9_undo (d + 3) 0 0 [zR 0] n I R (zP1 (fun r I' R' => ((I 95 1 < 1 ∧ r = -2 ∧ I' = I) ∨ (1 ≤ I 95 1 ∧ r = I 95 1 - 1 ∧ I' = zrd (zu I 95 1 (I 95 1 - 1)) 64 (rho (I 95 1 - 1)))) ∧ R' = R)) := by
  refine MT.of (by decide +kernel) tX9_undo_ok (Nat.le_of_ble_eq_true rfl) (fun hI0 => ?_)
  refine wp_ls (ls' := [some (zR 0)]) rfl ?_
  refine wp_aload_n (t := 0) rfl rfl ?_
  refine wp_getR (t := 1) (ji := 8) rfl fX9_67 rfl rfl (by omega) (by first | rfl | assumption) (by first | exact hW _ _ _ (by omega) rfl | assumption) ?_
  refine wp_aload_n (t := 2) rfl rfl ?_
  refine wp_getR (t := 3) (ji := 4) rfl fX9_40 rfl rfl (by omega) (by first | rfl | assumption) (by first | exact hW _ _ _ (by omega) rfl | assumption) ?_
  refine wp_vi (ci := 6) (c_X6_popInto (o := 95) (m := 8) (d := d) (Or.inl ⟨rfl, rfl⟩) hW hn hsh hh) (t := 4) rfl kX9_209 rfl rfl (by omega) (by first | rfl | assumption) ⟨_, _, rfl⟩ (Nat.le_of_ble_eq_true rfl) ⟨Nat.le_refl _, Nat.le_refl _⟩ (fun r8 I8 R8 c8 => ?_)
  refine wp_canon (fun hI1 => ?_)
  obtain ⟨c8, zr8⟩ := c8
  have zr8 := zr8.symm
  subst zr8
  have b8 : 0 ≤ r8 ∧ r8 ≤ 1 := by rcases c8 with q | q <;> omega
  refine wp_if_ne (t := 5) (tgt := 17) rfl (by decide) (by first | assumption | exact hI1 _ _ | exact hI0 _ _ | exact zin_and _ _ | (unfold zin; omega) | (unfold zin at *; omega)) (fun h11 => ?_) (fun h11 => ?_)
  · refine wp_aload_n (t := 8) rfl rfl ?_
    refine wp_getR (t := 9) (ji := 8) rfl fX9_67 rfl rfl (by omega) (by first | rfl | assumption) (by first | exact hW _ _ _ (by omega) rfl | assumption) ?_
    refine wp_getI (t := 10) (ji := 1) rfl fX9_213 rfl rfl (by omega) (by first | rfl | assumption) ?_
    refine wp_ireturn (t := 11) rfl rfl ?_
    have c8 : 1 ≤ I 95 1 ∧ I8 = zrd (zu I 95 1 (I 95 1 - 1)) 64 (rho (I 95 1 - 1)) := by rcases c8 with q | q; omega; exact ⟨q.1, q.2.2⟩
    refine ⟨_, rfl, Or.inr ⟨c8.1, ?_, c8.2⟩, rfl⟩
    rw [c8.2, zrd_na (by decide) (by decide) (by decide) (by decide), zu_eq]
  · refine wp_bipush (t := 6) rfl (by decide) ?_
    refine wp_ireturn (t := 7) rfl rfl ?_
    have c8 : I 95 1 < 1 ∧ I8 = I := by rcases c8 with q | q; exact ⟨q.1, q.2.2⟩; omega
    exact ⟨_, rfl, Or.inl ⟨c8.1, rfl, c8.2⟩, rfl⟩
set_option maxHeartbeats 4000000 in
set_option maxRecDepth 100000 in
theorem c_X9_keep {G : zG} {d n : Nat} {I : zMem} {R : zRef} {rho : Int → Nat} (hW : zWir n R) (hn : 115 ≤ n) (hsh : zShf 105 2 R rho) (hh : 0 ≤ I 105 1 ∧ I 105 1 ≤ 2) : MT G mX9_keep (d + 2) 0 0 [zR 0] n I R (zP1 (fun r I' R' => (I 105 1 = 2 ∧ r = -3 ∧ I' = I ∧ R' = R) ∨ (I 105 1 < 2 ∧ r = I 105 1 + 1 ∧ zPush 105 2 (zwr I 64 94) I' R' rho 94 ∧ zWir n R' ∧ ∀ b : Nat, b ≠ 106 → R' b = R b))) := by
  refine MT.of (by decide +kernel) tX9_keep_ok (Nat.le_of_ble_eq_true rfl) (fun hI0 => ?_)
  refine wp_ls (ls' := [some (zR 0)]) rfl ?_
  refine wp_aload_n (t := 0) rfl rfl ?_
  refine wp_getR (t := 1) (ji := 9) rfl fX9_71 rfl rfl (by omega) (by first | rfl | assumption) (by first | exact hW _ _ _ (by omega) rfl | assumption) ?_
  refine wp_getI (t := 2) (ji := 1) rfl fX9_213 rfl rfl (by omega) (by first | rfl | assumption) ?_
  refine wp_iconst (t := 3) rfl ?_
  refine wp_icmp_lt (t := 4) (tgt := 14) rfl (by decide) (by first | assumption | exact hI0 _ _ | exact zin_and _ _ | (unfold zin; omega) | (unfold zin at *; omega)) (by first | assumption | exact hI0 _ _ | exact zin_and _ _ | (unfold zin; omega) | (unfold zin at *; omega)) (fun h8 => ?_) (fun h8 => ?_)
  · refine wp_aload_n (t := 7) rfl rfl ?_
    refine wp_getR (t := 8) (ji := 4) rfl fX9_40 rfl rfl (by omega) (by first | rfl | assumption) (by first | exact hW _ _ _ (by omega) rfl | assumption) ?_
    refine wp_aload_n (t := 9) rfl rfl ?_
    refine wp_getR (t := 10) (ji := 7) rfl fX9_58 rfl rfl (by omega) (by first | rfl | assumption) (by first | exact hW _ _ _ (by omega) rfl | assumption) ?_
    refine wp_vv (ci := 3) (c_X3_writeTo (p := 64) (r := 94) (d := d) (Or.inl rfl) hW hn (by omega) rfl) (t := 11) rfl kX9_190 rfl rfl (by omega) (by first | rfl | assumption) ⟨_, _, rfl⟩ (Nat.le_of_ble_eq_true rfl) ⟨Nat.le_refl _, Nat.le_refl _⟩ (fun I22 R22 c22 => ?_)
    refine wp_canon (fun hI1 => ?_)
    obtain ⟨zi22, zr22⟩ := c22
    have zr22 := zr22.symm
    subst zr22
    subst zi22
    refine wp_aload_n (t := 12) rfl rfl ?_
    refine wp_getR (t := 13) (ji := 9) rfl fX9_71 rfl rfl (by omega) (by first | rfl | assumption) (by first | exact hW _ _ _ (by omega) rfl | assumption) ?_
    refine wp_aload_n (t := 14) rfl rfl ?_
    refine wp_getR (t := 15) (ji := 7) rfl fX9_58 rfl rfl (by omega) (by first | rfl | assumption) (by first | exact hW _ _ _ (by omega) rfl | assumption) ?_
    refine wp_vv (ci := 6) (c_X6_push (o := 105) (m := 2) (d := d) (Or.inr ⟨rfl, rfl⟩) hW hn hsh (by rw [zwr_na (by decide)]; exact hh)) (t := 16) rfl kX9_206 rfl rfl (by omega) (by first | rfl | assumption) ⟨_, _, rfl⟩ (Nat.le_of_ble_eq_true rfl) ⟨Nat.le_refl _, Nat.le_refl _⟩ (fun I33 R33 c33 => ?_)
    refine wp_canon (fun hI2 => ?_)
    obtain ⟨p33, w33, f33⟩ := c33
    have w09 : R33 0 9 = some 105 := w33 0 9 _ (by omega) rfl
    have h33 := p33.choose_spec.2.1
    rw [zwr_na (by decide)] at h33
    refine wp_aload_n (t := 17) rfl rfl ?_
    refine wp_getR (t := 18) (ji := 9) rfl fX9_71 rfl rfl (by omega) (by first | rfl | assumption) (by first | exact hW _ _ _ (by omega) rfl | assumption) ?_
    refine wp_getI (t := 19) (ji := 1) rfl fX9_213 rfl rfl (by omega) (by first | rfl | assumption) ?_
    refine wp_ireturn (t := 20) rfl rfl ?_
    refine ⟨_, rfl, Or.inr ⟨by omega, ?_, p33, w33, f33⟩⟩
    rw [h33, if_pos (by omega)]
  · refine wp_bipush (t := 5) rfl (by decide) ?_
    refine wp_ireturn (t := 6) rfl rfl ?_
    exact ⟨_, rfl, Or.inl ⟨by omega, rfl, rfl, rfl⟩⟩
set_option maxHeartbeats 4000000 in
set_option maxRecDepth 100000 in
theorem c_X9_back {G : zG} {d n : Nat} {I : zMem} {R : zRef} {rho : Int → Nat} (hW : zWir n R) (hn : 115 ≤ n) (hsh : zShf 105 2 R rho) (hh : 0 ≤ I 105 1 ∧ I 105 1 ≤ 2) : MT G mX9_back (d + 3) 0 0 [zR 0] n I R (zP1 (fun r I' R' => ((I 105 1 < 1 ∧ r = -2 ∧ I' = I) ∨ (1 ≤ I 105 1 ∧ r = I 105 1 - 1 ∧ I' = zu (zrd (zu I 105 1 (I 105 1 - 1)) 64 (rho (I 105 1 - 1))) 95 1 0)) ∧ R' = R)) := by
  refine MT.of (by decide +kernel) tX9_back_ok (Nat.le_of_ble_eq_true rfl) (fun hI0 => ?_)
  refine wp_ls (ls' := [some (zR 0)]) rfl ?_
  refine wp_aload_n (t := 0) rfl rfl ?_
  refine wp_getR (t := 1) (ji := 9) rfl fX9_71 rfl rfl (by omega) (by first | rfl | assumption) (by first | exact hW _ _ _ (by omega) rfl | assumption) ?_
  refine wp_aload_n (t := 2) rfl rfl ?_
  refine wp_getR (t := 3) (ji := 4) rfl fX9_40 rfl rfl (by omega) (by first | rfl | assumption) (by first | exact hW _ _ _ (by omega) rfl | assumption) ?_
  refine wp_vi (ci := 6) (c_X6_popInto (o := 105) (m := 2) (d := d) (Or.inr ⟨rfl, rfl⟩) hW hn hsh hh) (t := 4) rfl kX9_209 rfl rfl (by omega) (by first | rfl | assumption) ⟨_, _, rfl⟩ (Nat.le_of_ble_eq_true rfl) ⟨Nat.le_refl _, Nat.le_refl _⟩ (fun r8 I8 R8 c8 => ?_)
  refine wp_canon (fun hI1 => ?_)
  obtain ⟨c8, zr8⟩ := c8
  have zr8 := zr8.symm
  subst zr8
  have b8 : 0 ≤ r8 ∧ r8 ≤ 1 := by rcases c8 with q | q <;> omega
  refine wp_if_ne (t := 5) (tgt := 17) rfl (by decide) (by first | assumption | exact hI1 _ _ | exact hI0 _ _ | exact zin_and _ _ | (unfold zin; omega) | (unfold zin at *; omega)) (fun h11 => ?_) (fun h11 => ?_)
  · have c8 : 1 ≤ I 105 1 ∧ I8 = zrd (zu I 105 1 (I 105 1 - 1)) 64 (rho (I 105 1 - 1)) := by rcases c8 with q | q; omega; exact ⟨q.1, q.2.2⟩
    refine wp_aload_n (t := 8) rfl rfl ?_
    refine wp_getR (t := 9) (ji := 8) rfl fX9_67 rfl rfl (by omega) (by first | rfl | assumption) (by first | exact hW _ _ _ (by omega) rfl | assumption) ?_
    refine wp_vv (ci := 6) (c_X6_clear (o := 95) (m := 8) (d := d + 2) (Or.inl ⟨rfl, rfl⟩) hn) (t := 10) rfl kX9_259 rfl rfl (by omega) (by first | rfl | assumption) ⟨_, _, rfl⟩ (Nat.le_of_ble_eq_true rfl) ⟨Nat.le_refl _, Nat.le_refl _⟩ (fun I21 R21 c21 => ?_)
    refine wp_canon (fun hI2 => ?_)
    obtain ⟨zi21, zr21⟩ := c21
    have zr21 := zr21.symm
    subst zr21
    refine wp_aload_n (t := 11) rfl rfl ?_
    refine wp_getR (t := 12) (ji := 9) rfl fX9_71 rfl rfl (by omega) (by first | rfl | assumption) (by first | exact hW _ _ _ (by omega) rfl | assumption) ?_
    refine wp_getI (t := 13) (ji := 1) rfl fX9_213 rfl rfl (by omega) (by first | rfl | assumption) ?_
    refine wp_ireturn (t := 14) rfl rfl ?_
    refine ⟨_, rfl, Or.inr ⟨c8.1, ?_, by rw [zi21, c8.2]⟩, rfl⟩
    rw [zi21, zu_ne (by decide), c8.2, zrd_na (by decide) (by decide) (by decide) (by decide), zu_eq]
  · refine wp_bipush (t := 6) rfl (by decide) ?_
    refine wp_ireturn (t := 7) rfl rfl ?_
    have c8 : I 105 1 < 1 ∧ I8 = I := by rcases c8 with q | q; exact ⟨q.1, q.2.2⟩; omega
    exact ⟨_, rfl, Or.inl ⟨c8.1, rfl, c8.2⟩, rfl⟩
