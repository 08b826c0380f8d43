/-! the reference's own methods: acts -/
/-- noted, but for what is told and judged -/
def mNote2' (I I' : zMem) : Prop := I' 115 12 = (if I 115 12 < 8 then I 115 12 else 7) + 1 ∧ (∀ j : Int, j ≠ 12 → j ≠ 37 → j ≠ 38 → I' 115 j = I 115 j) ∧
  (∀ k j : Int, 0 ≤ k → k < (if I 115 12 < 8 then I 115 12 else 7) → 0 ≤ j → j < 18 → I' 123 (18 * k + j) = I 123 (18 * (if I 115 12 < 8 then k else k + 1) + j)) ∧
  (∀ j : Int, 0 ≤ j → j < 18 → I' 123 (18 * (if I 115 12 < 8 then I 115 12 else 7) + j) = I 122 j)
theorem mNote2'_of {I K I' : zMem} (h : mNote K I' (K 122)) (h1 : ∀ j : Int, j ≠ 37 → j ≠ 38 → K 115 j = I 115 j) (h2 : K 123 = I 123) (h3 : K 122 = I 122) : mNote2' I I' := by
  obtain ⟨a, b, c, d⟩ := h
  rw [h1 12 (by decide) (by decide)] at a c d
  rw [h2] at c
  rw [h3] at d
  exact ⟨a, fun j j1 j2 j3 => (b j j1).trans (h1 j j2 j3), c, d⟩
def mPutP (I : zMem) (c w t r : Int) (I' : zMem) : Prop :=
  (¬ ((0 ≤ c ∧ c < I 115 2) ∧ (1 ≤ w ∧ w ≤ I 115 0) ∧ 0 ≤ t ∧ t ≤ 99999) ∧ r = -1 ∧ I' = I) ∨
  (((0 ≤ c ∧ c < I 115 2) ∧ (1 ≤ w ∧ w ≤ I 115 0) ∧ 0 ≤ t ∧ t ≤ 99999) ∧
    ((0 < I 122 (6 + c) ∧ r = -2 ∧ I' = I) ∨
     (¬ 0 < I 122 (6 + c) ∧ ∃ K : zMem, mSt I K ∧ mTaken K ∧
       ((¬ sRea (mS K (-4)) c w t = 0 ∧ r = -2 ∧ (I' 115 18 = 3 ∧ I' 126 0 = 10 + c ∧ I' 126 1 = sRea (mS K (-4)) c w t ∧ I' 126 2 = sTold (mS K (-4)) (sRea (mS K (-4)) c w t) c w t) ∧ (∀ j : Int, j ≠ 18 → j ≠ 37 → j ≠ 38 → I' 115 j = I 115 j) ∧ ∀ b : Nat, b ≠ 115 → b ≠ 126 → I' b = K b) ∨
        (sRea (mS K (-4)) c w t = 0 ∧ r = sLen (sPut (mS K (-4)) c w t) (I 115 2).toNat ∧ ∃ J : zMem, mNote2' I J ∧ I' = mput J c w t ∧ ∀ b : Nat, b ≠ 115 → b ≠ 123 → J b = K b)))))
set_option maxHeartbeats 4000000 in
set_option maxRecDepth 100000 in
theorem c_X10_put {G : zG} {d n : Nat} {I : zMem} {R : zRef} {c w t : Int} (hW : zWir n R) (hn : 143 ≤ n) (hch : mCh I) (hpl : mPl I) (hu : 0 ≤ I 115 12 ∧ I 115 12 ≤ 8) (hc : zin c) (hw : zin w) (ht : zin t) : MT G mX10_put (d + 4) 0 0 [zR 115, zI c, zI w, zI t] n I R (zP1 (fun r I' R' => mPutP I c w t r I' ∧ R' = R)) := by
  refine MT.of (by decide +kernel) tX10_put_ok (Nat.le_of_ble_eq_true rfl) (fun hI0 => ?_)
  have hco := hch.1
  have hli := hch.2.1
  refine wp_ls (ls' := [some (zR 115), some (zI c), some (zI w), some (zI t)]) rfl ?_
  refine wp_aload_n (t := 0) rfl rfl ?_
  refine wp_iload_n (t := 1) rfl rfl ?_
  refine wp_vi (ci := 10) (c_X10_isCore (d := d + 2) hW hn hc ⟨by omega, by omega⟩) (t := 2) rfl kX10_212 rfl rfl (by omega) (by first | rfl | assumption) ⟨_, _, rfl⟩ (Nat.le_of_ble_eq_true rfl) ⟨Nat.le_refl _, Nat.le_refl _⟩ (fun r2 I2 R2 c2 => ?_)
  refine wp_canon (fun hI1 => ?_)
  obtain ⟨e2, zi2, zr2⟩ := c2
  have zi2 := zi2.symm
  subst zi2
  have zr2 := zr2.symm
  subst zr2
  have b2 : 0 ≤ r2 ∧ r2 ≤ 1 := by rw [e2]; split <;> omega
  have n2 : ¬ r2 = 0 → 0 ≤ c ∧ c < I 115 2 := fun h => by (rw [e2] at h; by_cases q : 0 ≤ c ∧ c < I 115 2; exact q; rw [if_neg q] at h; exact absurd rfl h)
  have m2 : r2 = 0 → ¬ (0 ≤ c ∧ c < I 115 2) := fun h q => by (rw [e2, if_pos q] at h; exact absurd h (by decide))
  refine wp_if_eq (t := 3) (tgt := 28) rfl (by decide) (by first | assumption | exact hI1 _ _ | exact hI0 _ _ | exact zin_and _ _ | (unfold zin; omega) | (unfold zin at *; omega)) (fun h5 => ?_) (fun h5 => ?_)
  · refine wp_iconst (t := 14) rfl ?_
    refine wp_ireturn (t := 15) rfl rfl ?_
    exact ⟨_, rfl, Or.inl ⟨fun q => m2 h5 q.1, rfl, rfl⟩, rfl⟩
  · refine wp_aload_n (t := 4) rfl rfl ?_
    refine wp_iload_n (t := 5) rfl rfl ?_
    refine wp_vi (ci := 10) (c_X10_isWidth (d := d + 2) hW hn hw) (t := 6) rfl kX10_222 rfl rfl (by omega) (by first | rfl | assumption) ⟨_, _, rfl⟩ (Nat.le_of_ble_eq_true rfl) ⟨Nat.le_refl _, Nat.le_refl _⟩ (fun r10 I10 R10 c10 => ?_)
    refine wp_canon (fun hI2 => ?_)
    obtain ⟨e10, zi10, zr10⟩ := c10
    have zi10 := zi10.symm
    subst zi10
    have zr10 := zr10.symm
    subst zr10
    have b10 : 0 ≤ r10 ∧ r10 ≤ 1 := by rw [e10]; split <;> omega
    have n10 : ¬ r10 = 0 → 1 ≤ w ∧ w ≤ I 115 0 := fun h => by (rw [e10] at h; by_cases q : 1 ≤ w ∧ w ≤ I 115 0; exact q; rw [if_neg q] at h; exact absurd rfl h)
    have m10 : r10 = 0 → ¬ (1 ≤ w ∧ w ≤ I 115 0) := fun h q => by (rw [e10, if_pos q] at h; exact absurd h (by decide))
    refine wp_if_eq (t := 7) (tgt := 28) rfl (by decide) (by first | assumption | exact hI2 _ _ | exact hI1 _ _ | exact hI0 _ _ | exact zin_and _ _ | (unfold zin; omega) | (unfold zin at *; omega)) (fun h13 => ?_) (fun h13 => ?_)
    · refine wp_iconst (t := 14) rfl ?_
      refine wp_ireturn (t := 15) rfl rfl ?_
      exact ⟨_, rfl, Or.inl ⟨fun q => m10 h13 q.2.1, rfl, rfl⟩, rfl⟩
    · refine wp_iload_n (t := 8) rfl rfl ?_
      refine wp_i2l (t := 9) rfl (by first | assumption | exact hI2 _ _ | exact hI1 _ _ | exact hI0 _ _ | exact zin_and _ _ | (unfold zin; omega) | (unfold zin at *; omega)) ?_
      refine wp_lconst 0 (t := 10) rfl (by decide) ?_
      refine wp_ldc2 (99999) (t := 11) rfl (wsL_law_r27_l (List.mem_of_getElem? (i := 1) rfl)) (by decide) ?_
      refine wp_si (c_X10_in (d := d + 3) (zin_long ht) (by unfold zinL; omega) (by unfold zinL; omega)) (t := 12) rfl kX10_124 rfl rfl (Nat.le_of_ble_eq_true rfl) ⟨Nat.le_refl _, Nat.le_refl _⟩ (fun r22 I22 R22 c22 => ?_)
      refine wp_canon (fun hI3 => ?_)
      obtain ⟨e22, zi22, zr22⟩ := c22
      have zi22 := zi22.symm
      subst zi22
      have zr22 := zr22.symm
      subst zr22
      have b22 : 0 ≤ r22 ∧ r22 ≤ 1 := by rw [e22]; split <;> omega
      have n22 : ¬ r22 = 0 → 0 ≤ t ∧ t ≤ 99999 := fun h => by (rw [e22] at h; by_cases q : 0 ≤ t ∧ t ≤ 99999; exact q; rw [if_neg q] at h; exact absurd rfl h)
      have m22 : r22 = 0 → ¬ (0 ≤ t ∧ t ≤ 99999) := fun h q => by (rw [e22, if_pos q] at h; exact absurd h (by decide))
      refine wp_if_ne (t := 13) (tgt := 30) rfl (by decide) (by first | assumption | exact hI3 _ _ | exact hI2 _ _ | exact hI1 _ _ | exact hI0 _ _ | exact zin_and _ _ | (unfold zin; omega) | (unfold zin at *; omega)) (fun h25 => ?_) (fun h25 => ?_)
      · have cc := n2 (by assumption)
        have ww := n10 (by assumption)
        have tt := n22 (by assumption)
        refine wp_aload_n (t := 16) rfl rfl ?_
        refine wp_iload_n (t := 17) rfl rfl ?_
        refine wp_vi (ci := 10) (c_X10_isPut (d := d + 3) hW hn ⟨by omega, by omega⟩) (t := 18) rfl kX10_215 rfl rfl (by omega) (by first | rfl | assumption) ⟨_, _, rfl⟩ (Nat.le_of_ble_eq_true rfl) ⟨Nat.le_refl _, Nat.le_refl _⟩ (fun r32 I32 R32 c32 => ?_)
        refine wp_canon (fun hI4 => ?_)
        obtain ⟨e32, zi32, zr32⟩ := c32
        have zi32 := zi32.symm
        subst zi32
        have zr32 := zr32.symm
        subst zr32
        have b32 : 0 ≤ r32 ∧ r32 ≤ 1 := by rw [e32]; split <;> omega
        have n32 : ¬ r32 = 0 → 0 < I 122 (6 + c) := fun h => by (rw [e32] at h; by_cases q : 0 < I 122 (6 + c); exact q; rw [if_neg q] at h; exact absurd rfl h)
        have m32 : r32 = 0 → ¬ (0 < I 122 (6 + c)) := fun h q => by (rw [e32, if_pos q] at h; exact absurd h (by decide))
        refine wp_if_eq (t := 19) (tgt := 41) rfl (by decide) (by first | assumption | exact hI4 _ _ | exact hI3 _ _ | exact hI2 _ _ | exact hI1 _ _ | exact hI0 _ _ | exact zin_and _ _ | (unfold zin; omega) | (unfold zin at *; omega)) (fun h35 => ?_) (fun h35 => ?_)
        · refine wp_aload_n (t := 22) rfl rfl ?_
          refine wp_vv (ci := 10) (c_X10_layTakes (d := d + 1) hW hn hch) (t := 23) rfl kX10_209 rfl rfl (by omega) (by first | rfl | assumption) ⟨_, _, rfl⟩ (Nat.le_of_ble_eq_true rfl) ⟨Nat.le_refl _, Nat.le_refl _⟩ (fun I42 R42 c42 => ?_)
          refine wp_canon (fun hI5 => ?_)
          obtain ⟨⟨s42, t42⟩, zr42⟩ := c42
          have zr42 := zr42.symm
          subst zr42
          have i115 : I42 115 = I 115 := s42 115 (by decide) (by decide) (by decide)
          have i122 : I42 122 = I 122 := s42 122 (by decide) (by decide) (by decide)
          have hchJ := mSt_Ch s42 hch
          have hplJ := mSt_Pl s42 hpl
          have htkJ := mTaken_Tk hchJ t42
          refine wp_aload_n (t := 24) rfl rfl ?_
          refine wp_aload_n (t := 25) rfl rfl ?_
          refine wp_iload_n (t := 26) rfl rfl ?_
          refine wp_iload_n (t := 27) rfl rfl ?_
          refine wp_iload_n (t := 28) rfl rfl ?_
          refine wp_bipush (t := 29) rfl (by decide) ?_
          refine wp_vi (ci := 10) (c_X10_judge (wo := -4) (d := d) hW hn hchJ hplJ htkJ ⟨cc.1, by rw [i115]; exact cc.2⟩ ⟨ww.1, by rw [i115]; exact ww.2⟩ ⟨tt.1, by omega⟩ (by unfold zin; omega)) (t := 30) rfl kX10_245 rfl rfl (by omega) (by first | rfl | assumption) ⟨_, _, rfl⟩ (Nat.le_of_ble_eq_true rfl) ⟨Nat.le_refl _, Nat.le_refl _⟩ (fun r52 I52 R52 c52 => ?_)
          refine wp_canon (fun hI6 => ?_)
          obtain ⟨e52, zi52, zr52⟩ := c52
          have zr52 := zr52.symm
          subst zr52
          have b52 : 0 ≤ r52 ∧ r52 ≤ 4 := by rw [e52]; exact sRea_b _ _ _ _
          have np : ¬ 0 < I 122 (6 + c) := m32 (by omega)
          refine wp_putI (t := 31) (ji := 37) rfl fX10_251 p10_37 rfl rfl (by omega) (by first | rfl | assumption) (by first | assumption | exact hI6 _ _ | exact hI5 _ _ | exact hI4 _ _ | exact hI3 _ _ | exact hI2 _ _ | exact hI1 _ _ | exact hI0 _ _ | exact zin_and _ _ | (unfold zin; omega) | (unfold zin at *; omega)) ?_
          refine wp_canon (fun hI7 => ?_)
          refine wp_aload_n (t := 32) rfl rfl ?_
          refine wp_getI (t := 33) (ji := 37) rfl fX10_251 rfl rfl (by omega) (by first | rfl | assumption) ?_
          rw [zu_eq]
          refine wp_if_le (t := 34) (tgt := 103) rfl (by decide) (by first | assumption | exact hI7 _ _ | exact hI6 _ _ | exact hI5 _ _ | exact hI4 _ _ | exact hI3 _ _ | exact hI2 _ _ | exact hI1 _ _ | exact hI0 _ _ | exact zin_and _ _ | (unfold zin; omega) | (unfold zin at *; omega)) (fun h62 => ?_) (fun h62 => ?_)
          · refine wp_aload_n (t := 59) rfl rfl ?_
            refine wp_vv (ci := 10) (c_X10_note (d := d + 3) hW hn (by rw [zu_ni (by decide), zi52, zu_ni (by decide), i115]; exact hu)) (t := 60) rfl kX10_254 rfl rfl (by omega) (by first | rfl | assumption) ⟨_, _, rfl⟩ (Nat.le_of_ble_eq_true rfl) ⟨Nat.le_refl _, Nat.le_refl _⟩ (fun I104 R104 c104 => ?_)
            refine wp_canon (fun hI8 => ?_)
            obtain ⟨⟨p104, f104⟩, zr104⟩ := c104
            have zr104 := zr104.symm
            subst zr104
            have nt : mNote2' I I104 := mNote2'_of p104 (fun j j1 j2 => by rw [zu_ni j1, zi52, zu_ni j2, i115]) (by rw [zu_ne (by decide), zi52, zu_ne (by decide)]; exact s42 123 (by decide) (by decide) (by decide)) (by rw [zu_ne (by decide), zi52, zu_ne (by decide)]; exact i122)
            have fK : ∀ b : Nat, b ≠ 115 → b ≠ 123 → I104 b = I42 b := fun b b1 b2 => by rw [f104 b b1 b2, zu_ne b1, zi52, zu_ne b1]
            have g115 : ∀ j : Int, 0 ≤ j → j < 4 → I104 115 j = I42 115 j := fun j j0 j1 => by rw [nt.2.1 j (by omega) (by omega) (by omega), i115]
            have eS : mS I104 (-4) = mS I42 (-4) := mS_ext g115 (fK 117 (by decide) (by decide)) (fK 120 (by decide) (by decide)) (fK 121 (by decide) (by decide)) (fK 122 (by decide) (by decide)) (fK 137 (by decide) (by decide))
            have hcL : mCh I104 := by
              unfold mCh at hchJ ⊢
              rw [g115 0 (by decide) (by decide), g115 1 (by decide) (by decide), g115 2 (by decide) (by decide), g115 3 (by decide) (by decide), fK 116 (by decide) (by decide), fK 117 (by decide) (by decide), fK 118 (by decide) (by decide), fK 119 (by decide) (by decide)]
              exact hchJ
            have htL : mTk I104 := by
              unfold mTk at htkJ ⊢
              rw [g115 0 (by decide) (by decide), g115 2 (by decide) (by decide), fK 137 (by decide) (by decide)]
              exact htkJ
            have hpL : mPl I104 := by
              unfold mPl at hplJ ⊢
              rw [g115 0 (by decide) (by decide), g115 2 (by decide) (by decide), fK 122 (by decide) (by decide)]
              exact hplJ
            have i2 : I104 115 2 = I 115 2 := by rw [g115 2 (by decide) (by decide), i115]
            have i0 : I104 115 0 = I 115 0 := by rw [g115 0 (by decide) (by decide), i115]
            refine wp_aload_n (t := 61) rfl rfl ?_
            refine wp_iload_n (t := 62) rfl rfl ?_
            refine wp_iload_n (t := 63) rfl rfl ?_
            refine wp_iload_n (t := 64) rfl rfl ?_
            refine wp_vv (ci := 10) (c_X10_putAt (d := d + 3) hW hn ⟨by omega, by omega⟩ hw ht) (t := 65) rfl kX10_257 rfl rfl (by omega) (by first | rfl | assumption) ⟨_, _, rfl⟩ (Nat.le_of_ble_eq_true rfl) ⟨Nat.le_refl _, Nat.le_refl _⟩ (fun I111 R111 c111 => ?_)
            refine wp_canon (fun hI9 => ?_)
            obtain ⟨zi111, zr111⟩ := c111
            have zr111 := zr111.symm
            subst zr111
            have zi111 : I111 = mput I104 c w t := zi111
            have m2' : ∀ j : Int, I111 115 j = I104 115 j := fun j => by rw [zi111, mput_b (by decide)]
            have e122 : ∀ j : Int, I111 122 j = mput I104 c w t 122 j := fun j => by rw [zi111]
            have hcM : mCh I111 := by
              unfold mCh at hcL ⊢
              rw [zi111, mput_b (by decide), mput_b (by decide), mput_b (by decide), mput_b (by decide), mput_b (by decide)]
              exact hcL
            have htM : mTk I111 := by
              unfold mTk at htL ⊢
              rw [zi111, mput_b (by decide), mput_b (by decide)]
              exact htL
            have hpM : mPl I111 := fun a a0 a1 => by
              rw [m2', i2] at a1
              have q := hpL a a0 (by rw [i2]; exact a1)
              rw [i0] at q
              rw [e122, e122, e122, m2', i0]
              unfold mput
              rw [zu_ni (by omega), zu_ni (by omega)]
              refine ⟨q.1, ?_, ?_⟩
              · rw [zu_ni (by omega)]
                by_cases e : a = c
                · rw [e, zu_eq]; omega
                · rw [zu_ni (by omega)]; exact q.2.1
              · by_cases e : a = c
                · rw [e, zu_eq]; omega
                · rw [zu_ni (by omega), zu_ni (by omega)]; exact q.2.2
            refine wp_aload_n (t := 66) rfl rfl ?_
            refine wp_vi (ci := 10) (c_X10_lengthOf (wo := -4) (d := d + 2) hW hn hcM hpM htM) (t := 67) rfl kX10_261 rfl rfl (by omega) (by first | rfl | assumption) ⟨_, _, rfl⟩ (Nat.le_of_ble_eq_true rfl) ⟨Nat.le_refl _, Nat.le_refl _⟩ (fun r115 I115 R115 c115 => ?_)
            refine wp_canon (fun hI10 => ?_)
            obtain ⟨e115, b115, zi115, zr115⟩ := c115
            have zi115 := zi115.symm
            subst zi115
            have zr115 := zr115.symm
            subst zr115
            refine wp_ireturn (t := 68) rfl rfl ?_
            refine ⟨_, rfl, Or.inr ⟨⟨cc, ww, tt⟩, Or.inr ⟨np, I42, s42, t42, Or.inr ⟨by omega, ?_, I104, nt, zi111, fK⟩⟩⟩, rfl⟩
            rw [e115, m2', i2, zi111]
            have ag := mput_ag (J := I104) (wo := -4) (c := c) (w := w) (t := t) (zAg_refl _) cc.1 (by rw [i2]; exact cc.2) (by rw [i2]; omega) ww.1 (by rw [i0]; exact ww.2)
            rw [eS] at ag
            exact sLen_ag ag _ (by show ((I 115 2).toNat : Int) ≤ mput I104 c w t 115 2; rw [mput_b (by decide), i2]; omega)
          · refine wp_aload_n (t := 35) rfl rfl ?_
            refine wp_getR (t := 36) (ji := 17) rfl fX10_40 rfl rfl (by omega) (by first | rfl | assumption) (by first | exact hW _ _ _ (by omega) rfl | assumption) ?_
            refine wp_iconst (t := 37) rfl ?_
            refine wp_bipush (t := 38) rfl (by decide) ?_
            refine wp_iload_n (t := 39) rfl rfl ?_
            refine wp_iadd (t := 40) rfl ?_
            refine wp_iastore (t := 41) rfl (by omega) (by first | rfl | assumption) (by omega) (by omega) (by omega) (by first | assumption | exact hI7 _ _ | exact hI6 _ _ | exact hI5 _ _ | exact hI4 _ _ | exact hI3 _ _ | exact hI2 _ _ | exact hI1 _ _ | exact hI0 _ _ | exact zin_and _ _ | (unfold zin; omega) | (unfold zin at *; omega)) ?_
            refine wp_canon (fun hI8 => ?_)
            refine wp_aload_n (t := 42) rfl rfl ?_
            refine wp_getR (t := 43) (ji := 17) rfl fX10_40 rfl rfl (by omega) (by first | rfl | assumption) (by first | exact hW _ _ _ (by omega) rfl | assumption) ?_
            refine wp_iconst (t := 44) rfl ?_
            refine wp_aload_n (t := 45) rfl rfl ?_
            refine wp_getI (t := 46) (ji := 37) rfl fX10_251 rfl rfl (by omega) (by first | rfl | assumption) ?_
            rw [show zu (zu I52 115 37 r52) 126 0 (10 + c) 115 37 = r52 by rw [zu_ne (by decide), zu_eq]]
            refine wp_iastore (t := 47) rfl (by omega) (by first | rfl | assumption) (by omega) (by omega) (by omega) (by first | assumption | exact hI8 _ _ | exact hI7 _ _ | exact hI6 _ _ | exact hI5 _ _ | exact hI4 _ _ | exact hI3 _ _ | exact hI2 _ _ | exact hI1 _ _ | exact hI0 _ _ | exact zin_and _ _ | (unfold zin; omega) | (unfold zin at *; omega)) ?_
            refine wp_canon (fun hI9 => ?_)
            refine wp_aload_n (t := 48) rfl rfl ?_
            refine wp_getR (t := 49) (ji := 17) rfl fX10_40 rfl rfl (by omega) (by first | rfl | assumption) (by first | exact hW _ _ _ (by omega) rfl | assumption) ?_
            refine wp_iconst (t := 50) rfl ?_
            refine wp_aload_n (t := 51) rfl rfl ?_
            refine wp_getI (t := 52) (ji := 38) rfl fX10_234 rfl rfl (by omega) (by first | rfl | assumption) ?_
            rw [show zu (zu (zu I52 115 37 r52) 126 0 (10 + c)) 126 1 r52 115 38 = sTold (mS I42 (-4)) r52 c w t by rw [zu_ne (by decide), zu_ne (by decide), zu_ni (by decide), zi52, zu_eq]]
            refine wp_iastore (t := 53) rfl (by omega) (by first | rfl | assumption) (by omega) (by omega) (by omega) (by rw [← show I52 115 38 = sTold (mS I42 (-4)) r52 c w t by rw [zi52, zu_eq]]; exact hI6 115 38) ?_
            refine wp_canon (fun hI10 => ?_)
            refine wp_aload_n (t := 54) rfl rfl ?_
            refine wp_iconst (t := 55) rfl ?_
            refine wp_putI (t := 56) (ji := 18) rfl fX10_197 p10_18 rfl rfl (by omega) (by first | rfl | assumption) (by first | assumption | exact hI10 _ _ | exact hI9 _ _ | exact hI8 _ _ | exact hI7 _ _ | exact hI6 _ _ | exact hI5 _ _ | exact hI4 _ _ | exact hI3 _ _ | exact hI2 _ _ | exact hI1 _ _ | exact hI0 _ _ | exact zin_and _ _ | (unfold zin; omega) | (unfold zin at *; omega)) ?_
            refine wp_canon (fun hI11 => ?_)
            refine wp_bipush (t := 57) rfl (by decide) ?_
            refine wp_ireturn (t := 58) rfl rfl ?_
            refine ⟨_, rfl, Or.inr ⟨⟨cc, ww, tt⟩, Or.inr ⟨np, I42, s42, t42, Or.inl ⟨by omega, rfl, ⟨zu_eq, ?_, ?_, ?_⟩, fun j j1 j2 j3 => ?_, fun b b1 b2 => ?_⟩⟩⟩, rfl⟩
            · rw [zu_ne (by decide), zu_ni (by decide), zu_ni (by decide), zu_eq]
            · rw [zu_ne (by decide), zu_ni (by decide), zu_eq]
              exact e52
            · rw [zu_ne (by decide), zu_eq, e52]
            · rw [zu_ni j1, zu_ne (by decide), zu_ne (by decide), zu_ne (by decide), zu_ni j2, zi52, zu_ni j3, i115]
            · rw [zu_ne b1, zu_ne b2, zu_ne b2, zu_ne b2, zu_ne b1, zi52, zu_ne b1]
        · refine wp_bipush (t := 20) rfl (by decide) ?_
          refine wp_ireturn (t := 21) rfl rfl ?_
          exact ⟨_, rfl, Or.inr ⟨⟨cc, ww, tt⟩, Or.inl ⟨n32 h35, rfl, rfl⟩⟩, rfl⟩
      · refine wp_iconst (t := 14) rfl ?_
        refine wp_ireturn (t := 15) rfl rfl ?_
        exact ⟨_, rfl, Or.inl ⟨fun q => m22 (by omega) q.2.2, rfl, rfl⟩, rfl⟩
def mTakeP (I : zMem) (c r : Int) (I' : zMem) : Prop :=
  (¬ (0 ≤ c ∧ c < I 115 2) ∧ r = -1 ∧ I' = I) ∨ ((0 ≤ c ∧ c < I 115 2) ∧ ((¬ 0 < I 122 (6 + c) ∧ r = -2 ∧ I' = I) ∨
   (0 < I 122 (6 + c) ∧ ∃ J : zMem, mNote2' I J ∧ (∀ b : Nat, b ≠ 115 → b ≠ 123 → J b = I b) ∧ mSt (mput J c 0 0) I' ∧ mTaken I' ∧ r = sLen (mS I' (-4)) (I 115 2).toNat)))
set_option maxHeartbeats 4000000 in
set_option maxRecDepth 100000 in
theorem c_X10_take {G : zG} {d n : Nat} {I : zMem} {R : zRef} {c : Int} (hW : zWir n R) (hn : 143 ≤ n) (hch : mCh I) (hpl : mPl I) (hu : 0 ≤ I 115 12 ∧ I 115 12 ≤ 8) (hc : zin c) : MT G mX10_take (d + 3) 0 0 [zR 115, zI c] n I R (zP1 (fun r I' R' => mTakeP I c r I' ∧ R' = R)) := by
  refine MT.of (by decide +kernel) tX10_take_ok (Nat.le_of_ble_eq_true rfl) (fun hI0 => ?_)
  have hco := hch.1
  refine wp_ls (ls' := [some (zR 115), some (zI c)]) rfl ?_
  refine wp_aload_n (t := 0) rfl rfl ?_
  refine wp_iload_n (t := 1) rfl rfl ?_
  refine wp_vi (ci := 10) (c_X10_isCore (d := d + 1) hW hn hc ⟨by omega, by omega⟩) (t := 2) rfl kX10_212 rfl rfl (by omega) (by first | rfl | assumption) ⟨_, _, rfl⟩ (Nat.le_of_ble_eq_true rfl) ⟨Nat.le_refl _, Nat.le_refl _⟩ (fun r2 I2 R2 c2 => ?_)
  refine wp_canon (fun hI1 => ?_)
  obtain ⟨e2, zi2, zr2⟩ := c2
  have zi2 := zi2.symm
  subst zi2
  have zr2 := zr2.symm
  subst zr2
  have b2 : 0 ≤ r2 ∧ r2 ≤ 1 := by rw [e2]; split <;> omega
  have n2 : ¬ r2 = 0 → 0 ≤ c ∧ c < I 115 2 := fun h => by (rw [e2] at h; by_cases q : 0 ≤ c ∧ c < I 115 2; exact q; rw [if_neg q] at h; exact absurd rfl h)
  have m2 : r2 = 0 → ¬ (0 ≤ c ∧ c < I 115 2) := fun h q => by (rw [e2, if_pos q] at h; exact absurd h (by decide))
  refine wp_if_ne (t := 3) (tgt := 10) rfl (by decide) (by first | assumption | exact hI1 _ _ | exact hI0 _ _ | exact zin_and _ _ | (unfold zin; omega) | (unfold zin at *; omega)) (fun h5 => ?_) (fun h5 => ?_)
  · have cc := n2 (by assumption)
    refine wp_aload_n (t := 6) rfl rfl ?_
    refine wp_iload_n (t := 7) rfl rfl ?_
    refine wp_vi (ci := 10) (c_X10_isPut (d := d + 2) hW hn ⟨by omega, by omega⟩) (t := 8) rfl kX10_215 rfl rfl (by omega) (by first | rfl | assumption) ⟨_, _, rfl⟩ (Nat.le_of_ble_eq_true rfl) ⟨Nat.le_refl _, Nat.le_refl _⟩ (fun r12 I12 R12 c12 => ?_)
    refine wp_canon (fun hI2 => ?_)
    obtain ⟨e12, zi12, zr12⟩ := c12
    have zi12 := zi12.symm
    subst zi12
    have zr12 := zr12.symm
    subst zr12
    have b12 : 0 ≤ r12 ∧ r12 ≤ 1 := by rw [e12]; split <;> omega
    have n12 : ¬ r12 = 0 → 0 < I 122 (6 + c) := fun h => by (rw [e12] at h; by_cases q : 0 < I 122 (6 + c); exact q; rw [if_neg q] at h; exact absurd rfl h)
    have m12 : r12 = 0 → ¬ (0 < I 122 (6 + c)) := fun h q => by (rw [e12, if_pos q] at h; exact absurd h (by decide))
    refine wp_if_ne (t := 9) (tgt := 21) rfl (by decide) (by first | assumption | exact hI2 _ _ | exact hI1 _ _ | exact hI0 _ _ | exact zin_and _ _ | (unfold zin; omega) | (unfold zin at *; omega)) (fun h15 => ?_) (fun h15 => ?_)
    · refine wp_aload_n (t := 12) rfl rfl ?_
      refine wp_vv (ci := 10) (c_X10_note (d := d + 2) hW hn hu) (t := 13) rfl kX10_254 rfl rfl (by omega) (by first | rfl | assumption) ⟨_, _, rfl⟩ (Nat.le_of_ble_eq_true rfl) ⟨Nat.le_refl _, Nat.le_refl _⟩ (fun I22 R22 c22 => ?_)
      refine wp_canon (fun hI3 => ?_)
      obtain ⟨⟨p22, f22⟩, zr22⟩ := c22
      have zr22 := zr22.symm
      subst zr22
      have nt : mNote2' I I22 := mNote2'_of p22 (fun _ _ _ => rfl) rfl rfl
      have g115 : ∀ j : Int, 0 ≤ j → j < 4 → I22 115 j = I 115 j := fun j j0 j1 => nt.2.1 j (by omega) (by omega) (by omega)
      refine wp_aload_n (t := 14) rfl rfl ?_
      refine wp_iload_n (t := 15) rfl rfl ?_
      refine wp_iconst (t := 16) rfl ?_
      refine wp_iconst (t := 17) rfl ?_
      refine wp_vv (ci := 10) (c_X10_putAt (d := d + 2) hW hn ⟨by omega, by omega⟩ (by unfold zin; omega) (by unfold zin; omega)) (t := 18) rfl kX10_257 rfl rfl (by omega) (by first | rfl | assumption) ⟨_, _, rfl⟩ (Nat.le_of_ble_eq_true rfl) ⟨Nat.le_refl _, Nat.le_refl _⟩ (fun I29 R29 c29 => ?_)
      refine wp_canon (fun hI4 => ?_)
      obtain ⟨zi29, zr29⟩ := c29
      have zr29 := zr29.symm
      subst zr29
      have zi29 : I29 = mput I22 c 0 0 := zi29
      have mj : ∀ j : Int, I29 115 j = I22 115 j := fun j => by rw [zi29, mput_b (by decide)]
      have mb : ∀ b : Nat, b ≠ 122 → b ≠ 115 → b ≠ 123 → I29 b = I b := fun b b1 b2 b3 => by rw [zi29, mput_b b1, f22 b b2 b3]
      have hcM : mCh I29 := by
        unfold mCh at hch ⊢
        rw [mj, mj, mj, mj, g115 0 (by decide) (by decide), g115 1 (by decide) (by decide), g115 2 (by decide) (by decide), g115 3 (by decide) (by decide), mb 116 (by decide) (by decide) (by decide), mb 117 (by decide) (by decide) (by decide), mb 118 (by decide) (by decide) (by decide), mb 119 (by decide) (by decide) (by decide)]
        exact hch
      refine wp_aload_n (t := 19) rfl rfl ?_
      refine wp_vv (ci := 10) (c_X10_layTakes (d := d) hW hn hcM) (t := 20) rfl kX10_209 rfl rfl (by omega) (by first | rfl | assumption) ⟨_, _, rfl⟩ (Nat.le_of_ble_eq_true rfl) ⟨Nat.le_refl _, Nat.le_refl _⟩ (fun I33 R33 c33 => ?_)
      refine wp_canon (fun hI5 => ?_)
      obtain ⟨⟨s33, t33⟩, zr33⟩ := c33
      have zr33 := zr33.symm
      subst zr33
      have hchJ := mSt_Ch s33 hcM
      have i2 : I33 115 2 = I 115 2 := by rw [s33 115 (by decide) (by decide) (by decide), mj, g115 2 (by decide) (by decide)]
      have i0 : I33 115 0 = I 115 0 := by rw [s33 115 (by decide) (by decide) (by decide), mj, g115 0 (by decide) (by decide)]
      have e22 : I22 122 = I 122 := f22 122 (by decide) (by decide)
      have hpM : mPl I33 := fun a a0 a1 => by
        rw [i2] at a1
        have q := hpl a a0 a1
        rw [i0, s33 122 (by decide) (by decide) (by decide), zi29]
        unfold mput
        rw [zu_ni (by omega), zu_ni (by omega), e22]
        refine ⟨q.1, ?_, ?_⟩
        · rw [zu_ni (by omega)]
          by_cases e : a = c
          · rw [e, zu_eq]; have := hch.2.1; omega
          · rw [zu_ni (by omega), e22]; exact q.2.1
        · by_cases e : a = c
          · rw [e, zu_eq]; omega
          · rw [zu_ni (by omega), zu_ni (by omega), e22]; exact q.2.2
      refine wp_aload_n (t := 21) rfl rfl ?_
      refine wp_vi (ci := 10) (c_X10_lengthOf (wo := -4) (d := d + 1) hW hn hchJ hpM (mTaken_Tk hchJ t33)) (t := 22) rfl kX10_261 rfl rfl (by omega) (by first | rfl | assumption) ⟨_, _, rfl⟩ (Nat.le_of_ble_eq_true rfl) ⟨Nat.le_refl _, Nat.le_refl _⟩ (fun r37 I37 R37 c37 => ?_)
      refine wp_canon (fun hI6 => ?_)
      obtain ⟨e37, b37, zi37, zr37⟩ := c37
      have zi37 := zi37.symm
      subst zi37
      have zr37 := zr37.symm
      subst zr37
      refine wp_ireturn (t := 23) rfl rfl ?_
      exact ⟨_, rfl, Or.inr ⟨cc, Or.inr ⟨n12 h15, I22, nt, f22, by rw [← zi29]; exact s33, t33, by rw [e37, i2]⟩⟩, rfl⟩
    · refine wp_bipush (t := 10) rfl (by decide) ?_
      refine wp_ireturn (t := 11) rfl rfl ?_
      exact ⟨_, rfl, Or.inr ⟨cc, Or.inl ⟨m12 (by omega), rfl, rfl⟩⟩, rfl⟩
  · refine wp_iconst (t := 4) rfl ?_
    refine wp_ireturn (t := 5) rfl rfl ?_
    exact ⟨_, rfl, Or.inl ⟨m2 (by omega), rfl, rfl⟩, rfl⟩
set_option maxHeartbeats 4000000 in
set_option maxRecDepth 100000 in
theorem c_X10_rename {G : zG} {d n : Nat} {I : zMem} {R : zRef} {c k : Int} (hW : zWir n R) (hn : 143 ≤ n) (hch : mCh I) (hu : 0 ≤ I 115 12 ∧ I 115 12 ≤ 8) (hc : zin c) (hk : zin k) : MT G mX10_rename (d + 2) 0 0 [zR 115, zI c, zI k] n I R (zP1 (fun r I' R' => ((¬ ((0 ≤ c ∧ c < I 115 2) ∧ 0 ≤ k ∧ k ≤ 3) ∧ r = -1 ∧ I' = I) ∨ (((0 ≤ c ∧ c < I 115 2) ∧ 0 ≤ k ∧ k ≤ 3) ∧ (((I 122 c = k ∨ 0 < I 122 (6 + c)) ∧ r = -2 ∧ I' = I) ∨ (¬ (I 122 c = k ∨ 0 < I 122 (6 + c)) ∧ r = I 122 c ∧ ∃ J : zMem, mNote2' I J ∧ (∀ b : Nat, b ≠ 115 → b ≠ 123 → J b = I b) ∧ I' = zu J 122 c k)))) ∧ R' = R)) := by
  refine MT.of (by decide +kernel) tX10_rename_ok (Nat.le_of_ble_eq_true rfl) (fun hI0 => ?_)
  have hco := hch.1
  refine wp_ls (ls' := [some (zR 115), some (zI c), some (zI k), none]) rfl ?_
  refine wp_aload_n (t := 0) rfl rfl ?_
  refine wp_iload_n (t := 1) rfl rfl ?_
  refine wp_vi (ci := 10) (c_X10_isCore (d := d) hW hn hc ⟨by omega, by omega⟩) (t := 2) rfl kX10_212 rfl rfl (by omega) (by first | rfl | assumption) ⟨_, _, rfl⟩ (Nat.le_of_ble_eq_true rfl) ⟨Nat.le_refl _, Nat.le_refl _⟩ (fun r2 I2 R2 c2 => ?_)
  refine wp_canon (fun hI1 => ?_)
  obtain ⟨e2, zi2, zr2⟩ := c2
  have zi2 := zi2.symm
  subst zi2
  have zr2 := zr2.symm
  subst zr2
  have b2 : 0 ≤ r2 ∧ r2 ≤ 1 := by rw [e2]; split <;> omega
  have n2 : ¬ r2 = 0 → 0 ≤ c ∧ c < I 115 2 := fun h => by (rw [e2] at h; by_cases q : 0 ≤ c ∧ c < I 115 2; exact q; rw [if_neg q] at h; exact absurd rfl h)
  have m2 : r2 = 0 → ¬ (0 ≤ c ∧ c < I 115 2) := fun h q => by (rw [e2, if_pos q] at h; exact absurd h (by decide))
  refine wp_if_eq (t := 3) (tgt := 20) rfl (by decide) (by first | assumption | exact hI1 _ _ | exact hI0 _ _ | exact zin_and _ _ | (unfold zin; omega) | (unfold zin at *; omega)) (fun h5 => ?_) (fun h5 => ?_)
  · refine wp_iconst (t := 10) rfl ?_
    refine wp_ireturn (t := 11) rfl rfl ?_
    exact ⟨_, rfl, Or.inl ⟨fun q => m2 h5 q.1, rfl, rfl⟩, rfl⟩
  · refine wp_iload_n (t := 4) rfl rfl ?_
    refine wp_i2l (t := 5) rfl (by first | assumption | exact hI1 _ _ | exact hI0 _ _ | exact zin_and _ _ | (unfold zin; omega) | (unfold zin at *; omega)) ?_
    refine wp_lconst 0 (t := 6) rfl (by decide) ?_
    refine wp_ldc2 (3) (t := 7) rfl (wsL_law_r31_l (List.mem_of_getElem? (i := 7) rfl)) (by decide) ?_
    refine wp_si (c_X10_in (d := d + 1) (zin_long hk) (by unfold zinL; omega) (by unfold zinL; omega)) (t := 8) rfl kX10_124 rfl rfl (Nat.le_of_ble_eq_true rfl) ⟨Nat.le_refl _, Nat.le_refl _⟩ (fun r14 I14 R14 c14 => ?_)
    refine wp_canon (fun hI2 => ?_)
    obtain ⟨e14, zi14, zr14⟩ := c14
    have zi14 := zi14.symm
    subst zi14
    have zr14 := zr14.symm
    subst zr14
    have b14 : 0 ≤ r14 ∧ r14 ≤ 1 := by rw [e14]; split <;> omega
    have n14 : ¬ r14 = 0 → 0 ≤ k ∧ k ≤ 3 := fun h => by (rw [e14] at h; by_cases q : 0 ≤ k ∧ k ≤ 3; exact q; rw [if_neg q] at h; exact absurd rfl h)
    have m14 : r14 = 0 → ¬ (0 ≤ k ∧ k ≤ 3) := fun h q => by (rw [e14, if_pos q] at h; exact absurd h (by decide))
    refine wp_if_ne (t := 9) (tgt := 22) rfl (by decide) (by first | assumption | exact hI2 _ _ | exact hI1 _ _ | exact hI0 _ _ | exact zin_and _ _ | (unfold zin; omega) | (unfold zin at *; omega)) (fun h17 => ?_) (fun h17 => ?_)
    · have cc := n2 (by assumption)
      have kk := n14 (by assumption)
      refine wp_aload_n (t := 12) rfl rfl ?_
      refine wp_getR (t := 13) (ji := 10) rfl fX10_28 rfl rfl (by omega) (by first | rfl | assumption) (by first | exact hW _ _ _ (by omega) rfl | assumption) ?_
      refine wp_iconst (t := 14) rfl ?_
      refine wp_iload_n (t := 15) rfl rfl ?_
      refine wp_iadd (t := 16) rfl ?_
      rw [Int.zero_add]
      refine wp_iaload (t := 17) rfl (by omega) (by first | rfl | assumption) (by omega) (by omega) (by omega) ?_
      refine wp_istore_n (t := 18) rfl (by decide) rfl ?_
      refine wp_iload_n (t := 19) rfl rfl ?_
      refine wp_iload_n (t := 20) rfl rfl ?_
      refine wp_icmp_eq (t := 21) (tgt := 44) rfl (by decide) (by first | assumption | exact hI2 _ _ | exact hI1 _ _ | exact hI0 _ _ | exact zin_and _ _ | (unfold zin; omega) | (unfold zin at *; omega)) (by first | assumption | exact hI2 _ _ | exact hI1 _ _ | exact hI0 _ _ | exact zin_and _ _ | (unfold zin; omega) | (unfold zin at *; omega)) (fun h33 => ?_) (fun h33 => ?_)
      · refine wp_bipush (t := 26) rfl (by decide) ?_
        refine wp_ireturn (t := 27) rfl rfl ?_
        exact ⟨_, rfl, Or.inr ⟨⟨cc, kk⟩, Or.inl ⟨Or.inl (by omega), rfl, rfl⟩⟩, rfl⟩
      · refine wp_aload_n (t := 22) rfl rfl ?_
        refine wp_iload_n (t := 23) rfl rfl ?_
        refine wp_vi (ci := 10) (c_X10_isPut (d := d + 1) hW hn ⟨by omega, by omega⟩) (t := 24) rfl kX10_215 rfl rfl (by omega) (by first | rfl | assumption) ⟨_, _, rfl⟩ (Nat.le_of_ble_eq_true rfl) ⟨Nat.le_refl _, Nat.le_refl _⟩ (fun r38 I38 R38 c38 => ?_)
        refine wp_canon (fun hI3 => ?_)
        obtain ⟨e38, zi38, zr38⟩ := c38
        have zi38 := zi38.symm
        subst zi38
        have zr38 := zr38.symm
        subst zr38
        have b38 : 0 ≤ r38 ∧ r38 ≤ 1 := by rw [e38]; split <;> omega
        have n38 : ¬ r38 = 0 → 0 < I 122 (6 + c) := fun h => by (rw [e38] at h; by_cases q : 0 < I 122 (6 + c); exact q; rw [if_neg q] at h; exact absurd rfl h)
        have m38 : r38 = 0 → ¬ (0 < I 122 (6 + c)) := fun h q => by (rw [e38, if_pos q] at h; exact absurd h (by decide))
        refine wp_if_eq (t := 25) (tgt := 47) rfl (by decide) (by first | assumption | exact hI3 _ _ | exact hI2 _ _ | exact hI1 _ _ | exact hI0 _ _ | exact zin_and _ _ | (unfold zin; omega) | (unfold zin at *; omega)) (fun h41 => ?_) (fun h41 => ?_)
        · refine wp_aload_n (t := 28) rfl rfl ?_
          refine wp_vv (ci := 10) (c_X10_note (d := d + 1) hW hn hu) (t := 29) rfl kX10_254 rfl rfl (by omega) (by first | rfl | assumption) ⟨_, _, rfl⟩ (Nat.le_of_ble_eq_true rfl) ⟨Nat.le_refl _, Nat.le_refl _⟩ (fun I48 R48 c48 => ?_)
          refine wp_canon (fun hI4 => ?_)
          obtain ⟨⟨p48, f48⟩, zr48⟩ := c48
          have zr48 := zr48.symm
          subst zr48
          have nt : mNote2' I I48 := mNote2'_of p48 (fun _ _ _ => rfl) rfl rfl
          refine wp_aload_n (t := 30) rfl rfl ?_
          refine wp_getR (t := 31) (ji := 10) rfl fX10_28 rfl rfl (by omega) (by first | rfl | assumption) (by first | exact hW _ _ _ (by omega) rfl | assumption) ?_
          refine wp_iconst (t := 32) rfl ?_
          refine wp_iload_n (t := 33) rfl rfl ?_
          refine wp_iadd (t := 34) rfl ?_
          refine wp_iload_n (t := 35) rfl rfl ?_
          rw [Int.zero_add]
          refine wp_iastore (t := 36) rfl (by omega) (by first | rfl | assumption) (by omega) (by omega) (by omega) (by first | assumption | exact hI4 _ _ | exact hI3 _ _ | exact hI2 _ _ | exact hI1 _ _ | exact hI0 _ _ | exact zin_and _ _ | (unfold zin; omega) | (unfold zin at *; omega)) ?_
          refine wp_canon (fun hI5 => ?_)
          refine wp_iload_n (t := 37) rfl rfl ?_
          refine wp_ireturn (t := 38) rfl rfl ?_
          exact ⟨_, rfl, Or.inr ⟨⟨cc, kk⟩, Or.inr ⟨fun q => by rcases q with q | q; omega; exact m38 (by omega) q, rfl, I48, nt, f48, rfl⟩⟩, rfl⟩
        · refine wp_bipush (t := 26) rfl (by decide) ?_
          refine wp_ireturn (t := 27) rfl rfl ?_
          exact ⟨_, rfl, Or.inr ⟨⟨cc, kk⟩, Or.inl ⟨Or.inr (n38 h41), rfl, rfl⟩⟩, rfl⟩
    · refine wp_iconst (t := 10) rfl ?_
      refine wp_ireturn (t := 11) rfl rfl ?_
      exact ⟨_, rfl, Or.inl ⟨fun q => m14 (by omega) q.2, rfl, rfl⟩, rfl⟩
