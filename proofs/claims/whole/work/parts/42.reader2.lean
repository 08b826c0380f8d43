/-! the class reads an item, and all of a text -/
theorem cRd_core {I M : zMem} {o : Nat} {S : pS} {T : Int → Int} {L p c : Int} (ho : o = 4 ∨ o = 34) (hr : cRd I o S) (hS : pGood S) (hc : c = S.1.2.2.1) (hc6 : c < 6) (hM : ∀ b : Nat, b ≠ 3 → b ≠ o + 6 + c.toNat → M b = I b) (hrow : ∀ i : Int, 0 ≤ i → i < pCm T L p → M (o + 6 + c.toNat) i = T ((pC3 T L p).2 + i) - 48) :
    cRd (zu (zu (zu (zu (zu M (o + 1) c (pC1 T L p).1) (o + 2) c (pC2 T L p).1) (o + 3) c (pC3 T L p).1) (o + 4) c (pCm T L p)) o 2 (c + 1)) o (pUpC T L S p) := by
  obtain ⟨⟨h1, h2, h3, h4⟩, h5, h6⟩ := hr
  have hco := hS.2.2.1
  have ec : (pUpC T L S p).1.2.2.1 = c + 1 := by rw [hc]; rfl
  have q0 : M o = I o := hM o (by omega) (by omega)
  refine ⟨⟨?_, ?_, ?_, ?_⟩, fun a a0 a1 => ?_, fun b b0 b1 => ?_⟩
  · rw [zu_ni (by decide), zu_ne (by omega), zu_ne (by omega), zu_ne (by omega), zu_ne (by omega), q0]
    exact h1
  · rw [zu_ni (by decide), zu_ne (by omega), zu_ne (by omega), zu_ne (by omega), zu_ne (by omega), q0]
    exact h2
  · rw [zu_eq, ec]
  · rw [zu_ni (by decide), zu_ne (by omega), zu_ne (by omega), zu_ne (by omega), zu_ne (by omega), q0]
    exact h4
  · rw [ec] at a1
    rw [zu_ne (b := o + 1) (by omega), zu_ne (b := o + 1) (by omega), zu_ne (b := o + 1) (by omega), zu_ne (b := o + 1) (by omega), zu_ne (b := o + 2) (by omega), zu_ne (b := o + 2) (by omega), zu_ne (b := o + 2) (by omega), zu_ne (b := o + 3) (by omega), zu_ne (b := o + 3) (by omega), zu_ne (b := o + 4) (by omega), zu_ne (b := o + 6 + a.toNat) (by omega), zu_ne (b := o + 6 + a.toNat) (by omega), zu_ne (b := o + 6 + a.toNat) (by omega), zu_ne (b := o + 6 + a.toNat) (by omega), zu_ne (b := o + 6 + a.toNat) (by omega)]
    show _ = pu S.2.1 S.1.2.2.1 (pC1 T L p).1 a ∧ _ = pu S.2.2.1 S.1.2.2.1 (pC2 T L p).1 a ∧ _ = pu S.2.2.2.1 S.1.2.2.1 (pC3 T L p).1 a ∧ _ = pu S.2.2.2.2.1 S.1.2.2.1 (pCm T L p) a ∧ ∀ i : Int, 0 ≤ i → i < pu S.2.2.2.2.1 S.1.2.2.1 (pCm T L p) a → M (o + 6 + a.toNat) i = if a = S.1.2.2.1 then T ((pC3 T L p).2 + i) - 48 else S.2.2.2.2.2.1 a i
    rw [← hc]
    by_cases e : a = c
    · rw [e, zu_eq, zu_eq, zu_eq, zu_eq, pu_i, pu_i, pu_i, pu_i]
      exact ⟨rfl, rfl, rfl, rfl, fun i i0 i1 => by rw [if_pos rfl]; exact hrow i i0 i1⟩
    · have g := h5 a a0 (by omega)
      rw [zu_ni e, zu_ni e, zu_ne (b := o + 2) (by omega), zu_ni e, zu_ne (b := o + 3) (by omega), zu_ne (b := o + 3) (by omega), zu_ni e, zu_ne (b := o + 4) (by omega), zu_ne (b := o + 4) (by omega), zu_ne (b := o + 4) (by omega), pu_n e, pu_n e, pu_n e, pu_n e, hM (o + 1) (by omega) (by omega), hM (o + 2) (by omega) (by omega), hM (o + 3) (by omega) (by omega), hM (o + 4) (by omega) (by omega), hM (o + 6 + a.toNat) (by omega) (by omega)]
      exact ⟨g.1, g.2.1, g.2.2.1, g.2.2.2.1, fun i i0 i1 => by rw [if_neg e]; exact g.2.2.2.2 i i0 i1⟩
  · have g := h6 b b0 b1
    rw [zu_ne (b := o + 12) (by omega), zu_ne (b := o + 12) (by omega), zu_ne (b := o + 12) (by omega), zu_ne (b := o + 12) (by omega), zu_ne (b := o + 12) (by omega), zu_ne (b := o + 13) (by omega), zu_ne (b := o + 13) (by omega), zu_ne (b := o + 13) (by omega), zu_ne (b := o + 13) (by omega), zu_ne (b := o + 13) (by omega), hM (o + 12) (by omega) (by omega), hM (o + 13) (by omega) (by omega)]
    exact g
set_option maxHeartbeats 4000000 in
set_option maxRecDepth 100000 in
theorem c_X4_readCore {G : zG} {d n o : Nat} {I : zMem} {R : zRef} {S : pS} {p : Int} (ho : o = 4 ∨ o = 34) (hW : zWir n R) (hn : 115 ≤ n) (hlen : 0 ≤ I 1 1 ∧ I 1 1 ≤ 200) (hp : 0 ≤ p ∧ p ≤ 200) (hat : I 3 1 = p + 1) (hr : cRd I o S) (hS : pGood S) : MT G mX4_readCore (d + 2) 0 0 [zR 3, zR o] n I R (zP1 (fun r I' R' => (r = (if pCok (I 2) (I 1 1) S p then 1 else 0) ∧ (¬ r = 0 → cRd I' o (pUpC (I 2) (I 1 1) S p) ∧ I' 3 1 = (pC3 (I 2) (I 1 1) p).2 + pCm (I 2) (I 1 1) p + 1) ∧ cFr I I' o) ∧ R' = R)) := by
  refine MT.of (by decide +kernel) tX4_readCore_ok (Nat.le_of_ble_eq_true rfl) (fun hI0 => ?_)
  obtain ⟨l0, l1, l2, l3, l4, l5, l6, l7, l8, o1, o2⟩ := zco ho
  obtain ⟨w1, w2, w3, w4, w5, w6, w7, w8⟩ := zcr ho hW hn
  have hcn := hr.1.2.2.1
  have hco := hS.2.2.1
  generalize hcv : I o 2 = c at hcn
  have hrow : c < 6 → R (o + 5) c = some (o + 6 + c.toNat) := fun q => w8 c (by omega) q
  have hlrow : c < 6 → zlay (o + 6 + c.toNat) = (20, 6) := fun q => l6 _ (by omega)
  refine wp_ls (ls' := [some (zR 3), some (zR o), none, none, none, none, none]) rfl ?_
  refine wp_aload_n (t := 0) rfl rfl ?_
  refine wp_getI (t := 1) (ji := 2) rfl fX4_59 rfl rfl (by omega) (by first | rfl | assumption) ?_
  rw [hcv]
  refine wp_istore_n (t := 2) rfl (by decide) rfl ?_
  refine wp_iload_n (t := 3) rfl rfl ?_
  refine wp_bipush (t := 4) rfl (by decide) ?_
  refine wp_icmp_lt (t := 5) (tgt := 13) rfl (by decide) (by first | assumption | exact hI0 _ _ | exact zin_and _ _ | (unfold zin; omega) | (unfold zin at *; omega)) (by first | assumption | exact hI0 _ _ | exact zin_and _ _ | (unfold zin; omega) | (unfold zin at *; omega)) (fun h8 => ?_) (fun h8 => ?_)
  · refine wp_aload_n (t := 8) rfl rfl ?_
    refine wp_iconst (t := 9) rfl ?_
    refine wp_iconst (t := 10) rfl ?_
    refine wp_bipush (t := 11) rfl (by decide) ?_
    refine wp_vi (ci := 4) (c_X4_number (d := d) hW hn hlen ⟨by omega, by omega⟩ (by omega) (by unfold zin; omega) (by unfold zin; omega) (by unfold zin; omega)) (t := 12) rfl kX4_49 rfl rfl (by omega) (by first | rfl | assumption) ⟨_, _, rfl⟩ (Nat.le_of_ble_eq_true rfl) ⟨Nat.le_refl _, Nat.le_refl _⟩ (fun r18 I18 R18 c18 => ?_)
    refine wp_canon (fun hI1 => ?_)
    obtain ⟨⟨e18, a18, b18, f18⟩, zr18⟩ := c18
    have zr18 := zr18.symm
    subst zr18
    rw [hat] at e18 a18
    have e18 : r18 = (pC1 (I 2) (I 1 1) p).1 := e18
    have a18 : ¬ r18 = -4 → I18 3 1 = (pC1 (I 2) (I 1 1) p).2 := a18
    have y1 : I18 1 = I 1 := f18 1 (by decide)
    have y2 : I18 2 = I 2 := f18 2 (by decide)
    refine wp_istore_n (t := 13) rfl (by decide) rfl ?_
    refine wp_aload_n (t := 14) rfl rfl ?_
    refine wp_iconst (t := 15) rfl ?_
    refine wp_bipush (t := 16) rfl (by decide) ?_
    refine wp_bipush (t := 17) rfl (by decide) ?_
    refine wp_vi (ci := 4) (c_X4_number (d := d) hW hn (by rw [y1]; exact hlen) ⟨by omega, by omega⟩ (by omega) (by unfold zin; omega) (by unfold zin; omega) (by unfold zin; omega)) (t := 18) rfl kX4_49 rfl rfl (by omega) (by first | rfl | assumption) ⟨_, _, rfl⟩ (Nat.le_of_ble_eq_true rfl) ⟨Nat.le_refl _, Nat.le_refl _⟩ (fun r28 I28 R28 c28 => ?_)
    refine wp_canon (fun hI2 => ?_)
    obtain ⟨⟨e28, a28, b28, f28⟩, zr28⟩ := c28
    have zr28 := zr28.symm
    subst zr28
    rw [y1, y2] at e28 a28
    have e28 : ¬ r18 = -4 → r28 = (pC2 (I 2) (I 1 1) p).1 := fun q => by rw [e28, a18 q]; rfl
    have a28 : ¬ r18 = -4 → ¬ r28 = -4 → I28 3 1 = (pC2 (I 2) (I 1 1) p).2 := fun q q2 => by rw [a28 q2, a18 q]; rfl
    have y3 : I28 1 = I 1 := (f28 1 (by decide)).trans y1
    have y4 : I28 2 = I 2 := (f28 2 (by decide)).trans y2
    refine wp_istore (t := 19) rfl (by decide) rfl ?_
    refine wp_aload_n (t := 20) rfl rfl ?_
    refine wp_iconst (t := 21) rfl ?_
    refine wp_bipush (t := 22) rfl (by decide) ?_
    refine wp_bipush (t := 23) rfl (by decide) ?_
    refine wp_vi (ci := 4) (c_X4_number (d := d) hW hn (by rw [y3]; exact hlen) ⟨by omega, by omega⟩ (by omega) (by unfold zin; omega) (by unfold zin; omega) (by unfold zin; omega)) (t := 24) rfl kX4_49 rfl rfl (by omega) (by first | rfl | assumption) ⟨_, _, rfl⟩ (Nat.le_of_ble_eq_true rfl) ⟨Nat.le_refl _, Nat.le_refl _⟩ (fun r39 I39 R39 c39 => ?_)
    refine wp_canon (fun hI3 => ?_)
    obtain ⟨⟨e39, a39, b39, f39⟩, zr39⟩ := c39
    have zr39 := zr39.symm
    subst zr39
    rw [y3, y4] at e39 a39
    have e39 : ¬ r18 = -4 → ¬ r28 = -4 → r39 = (pC3 (I 2) (I 1 1) p).1 := fun q q2 => by rw [e39, a28 q q2]; rfl
    have a39 : ¬ r18 = -4 → ¬ r28 = -4 → ¬ r39 = -4 → I39 3 1 = (pC3 (I 2) (I 1 1) p).2 := fun q q2 q3 => by rw [a39 q3, a28 q q2]; rfl
    have y5 : I39 1 = I 1 := (f39 1 (by decide)).trans y3
    have y6 : I39 2 = I 2 := (f39 2 (by decide)).trans y4
    have fr : ∀ b : Nat, b ≠ 3 → I39 b = I b := fun b hb => by rw [f39 b hb, f28 b hb, f18 b hb]
    have zb1 : zin r18 := by
      rcases pNum_b (T := I 2) (L := I 1 1) (lo := 0) (hi := 3) (sg := 44) (p := p + 1) with q | q
      · have : (pC1 (I 2) (I 1 1) p).1 = -4 := by unfold pC1; rw [q]
        unfold zin; omega
      · have q : 0 ≤ (pC1 (I 2) (I 1 1) p).1 ∧ (pC1 (I 2) (I 1 1) p).1 ≤ 99 := q.2.2.1
        unfold zin; omega
    have zb2 : ¬ r18 = -4 → zin r28 := fun q9 => by
      have q8 := e28 q9
      rcases pNum_b (T := I 2) (L := I 1 1) (lo := 1) (hi := 20) (sg := 44) (p := (pC1 (I 2) (I 1 1) p).2) with q | q
      · have : (pC2 (I 2) (I 1 1) p).1 = -4 := by unfold pC2; rw [q]
        unfold zin; omega
      · have q : 0 ≤ (pC2 (I 2) (I 1 1) p).1 ∧ (pC2 (I 2) (I 1 1) p).1 ≤ 99 := q.2.2.1
        unfold zin; omega
    have zb3 : ¬ r18 = -4 → ¬ r28 = -4 → zin r39 := fun q9 q8 => by
      have q7 := e39 q9 q8
      rcases pNum_b (T := I 2) (L := I 1 1) (lo := 1) (hi := 30) (sg := 44) (p := (pC2 (I 2) (I 1 1) p).2) with q | q
      · have : (pC3 (I 2) (I 1 1) p).1 = -4 := by unfold pC3; rw [q]
        unfold zin; omega
      · have q : 0 ≤ (pC3 (I 2) (I 1 1) p).1 ∧ (pC3 (I 2) (I 1 1) p).1 ≤ 99 := q.2.2.1
        unfold zin; omega
    refine wp_istore (t := 25) rfl (by decide) rfl ?_
    refine wp_iload_n (t := 26) rfl rfl ?_
    refine wp_bipush (t := 27) rfl (by decide) ?_
    refine wp_icmp_eq (t := 28) (tgt := 64) rfl (by decide) zb1 (by first | assumption | exact hI3 _ _ | exact hI2 _ _ | exact hI1 _ _ | exact hI0 _ _ | exact zin_and _ _ | (unfold zin; omega) | (unfold zin at *; omega)) (fun h47 => ?_) (fun h47 => ?_)
    · refine wp_iconst (t := 35) rfl ?_
      refine wp_zreturn (t := 36) rfl rfl (by omega) ?_
      exact ⟨_, rfl, ⟨(if_neg (fun k => by have := k.2.1; omega)).symm, fun q => absurd rfl q, fun b b1 b2 => fr b b1⟩, rfl⟩
    · refine wp_iload (t := 29) rfl rfl ?_
      refine wp_bipush (t := 30) rfl (by decide) ?_
      refine wp_icmp_eq (t := 31) (tgt := 64) rfl (by decide) (zb2 (by assumption)) (by first | assumption | exact hI3 _ _ | exact hI2 _ _ | exact hI1 _ _ | exact hI0 _ _ | exact zin_and _ _ | (unfold zin; omega) | (unfold zin at *; omega)) (fun h54 => ?_) (fun h54 => ?_)
      · refine wp_iconst (t := 35) rfl ?_
        refine wp_zreturn (t := 36) rfl rfl (by omega) ?_
        exact ⟨_, rfl, ⟨(if_neg (fun k => by have := k.2.2.1; have := e28 h47; omega)).symm, fun q => absurd rfl q, fun b b1 b2 => fr b b1⟩, rfl⟩
      · refine wp_iload (t := 32) rfl rfl ?_
        refine wp_bipush (t := 33) rfl (by decide) ?_
        refine wp_icmp_ne (t := 34) (tgt := 66) rfl (by decide) (zb3 (by assumption) (by assumption)) (by first | assumption | exact hI3 _ _ | exact hI2 _ _ | exact hI1 _ _ | exact hI0 _ _ | exact zin_and _ _ | (unfold zin; omega) | (unfold zin at *; omega)) (fun h61 => ?_) (fun h61 => ?_)
        · have hc6 : c < 6 := by omega
          have hrow := hrow hc6
          have hlrow := hlrow hc6
          refine wp_aload_n (t := 37) rfl rfl ?_
          refine wp_aload_n (t := 38) rfl rfl ?_
          refine wp_getR (t := 39) (ji := 8) rfl fX4_62 rfl rfl (by omega) (by first | rfl | assumption) (by first | exact hW _ _ _ (by omega) rfl | assumption) ?_
          refine wp_iload_n (t := 40) rfl rfl ?_
          refine wp_aaload (t := 41) rfl (by omega) (by first | rfl | assumption) (by omega) (by omega) (by omega) (by first | exact hW _ _ _ (by omega) rfl | assumption) ?_
          refine wp_vi (ci := 4) (c_X4_row (d := d) hW hn (by rw [y5]; exact hlen) ⟨by omega, by omega⟩ ⟨by omega, by omega⟩ hlrow) (t := 42) rfl kX4_66 rfl rfl (by omega) (by first | rfl | assumption) ⟨_, _, rfl⟩ (Nat.le_of_ble_eq_true rfl) ⟨Nat.le_refl _, Nat.le_refl _⟩ (fun r73 I73 R73 c73 => ?_)
          refine wp_canon (fun hI4 => ?_)
          obtain ⟨⟨e73, a73, w73, f73⟩, zr73⟩ := c73
          have zr73 := zr73.symm
          subst zr73
          rw [y5, y6, a39 h47 h54 h61] at e73 a73 w73
          have hcm : pRun (I 2) (I 1 1) (pC3 (I 2) (I 1 1) p).2 6 = pCm (I 2) (I 1 1) p := rfl
          rw [hcm] at e73 a73 w73
          have rb : 0 ≤ pCm (I 2) (I 1 1) p ∧ pCm (I 2) (I 1 1) p ≤ 6 := pRun_b (I 2) (I 1 1) (pC3 (I 2) (I 1 1) p).2 6
          have zb4 : zin r73 := by rw [e73]; unfold zin; split <;> omega
          have fm : ∀ b : Nat, b ≠ 3 → b ≠ o + 6 + c.toNat → I73 b = I b := fun b g1 g2 => by rw [f73 b g1 g2, fr b g1]
          refine wp_istore (t := 43) rfl (by decide) rfl ?_
          refine wp_iload (t := 44) rfl rfl ?_
          refine wp_bipush (t := 45) rfl (by decide) ?_
          refine wp_icmp_ne (t := 46) (tgt := 87) rfl (by decide) (by first | assumption | exact hI4 _ _ | exact hI3 _ _ | exact hI2 _ _ | exact hI1 _ _ | exact hI0 _ _ | exact zin_and _ _ | (unfold zin; omega) | (unfold zin at *; omega)) (by first | assumption | exact hI4 _ _ | exact hI3 _ _ | exact hI2 _ _ | exact hI1 _ _ | exact hI0 _ _ | exact zin_and _ _ | (unfold zin; omega) | (unfold zin at *; omega)) (fun h82 => ?_) (fun h82 => ?_)
          · have ok2 : ¬ (pCm (I 2) (I 1 1) p = 0 ∨ ¬ pLet (I 2) (I 1 1) ((pC3 (I 2) (I 1 1) p).2 + pCm (I 2) (I 1 1) p) = 59) := fun q => by rw [if_pos q] at e73; exact h82 e73
            rw [if_neg ok2] at e73
            have q1 := e28 h47
            have q2 := e39 h47 h54
            refine wp_aload_n (t := 49) rfl rfl ?_
            refine wp_getR (t := 50) (ji := 4) rfl fX4_70 rfl rfl (by omega) (by first | rfl | assumption) (by first | exact hW _ _ _ (by omega) rfl | assumption) ?_
            refine wp_iload_n (t := 51) rfl rfl ?_
            refine wp_iload_n (t := 52) rfl rfl ?_
            refine wp_iastore (t := 53) rfl (by omega) l1 (by omega) (by omega) (by omega) (by first | assumption | exact hI4 _ _ | exact hI3 _ _ | exact hI2 _ _ | exact hI1 _ _ | exact hI0 _ _ | exact zin_and _ _ | (unfold zin; omega) | (unfold zin at *; omega)) ?_
            refine wp_canon (fun hI5 => ?_)
            refine wp_aload_n (t := 54) rfl rfl ?_
            refine wp_getR (t := 55) (ji := 5) rfl fX4_74 rfl rfl (by omega) (by first | rfl | assumption) (by first | exact hW _ _ _ (by omega) rfl | assumption) ?_
            refine wp_iload_n (t := 56) rfl rfl ?_
            refine wp_iload (t := 57) rfl rfl ?_
            refine wp_iastore (t := 58) rfl (by omega) l2 (by omega) (by omega) (by omega) (zb2 h47) ?_
            refine wp_canon (fun hI6 => ?_)
            refine wp_aload_n (t := 59) rfl rfl ?_
            refine wp_getR (t := 60) (ji := 6) rfl fX4_77 rfl rfl (by omega) (by first | rfl | assumption) (by first | exact hW _ _ _ (by omega) rfl | assumption) ?_
            refine wp_iload_n (t := 61) rfl rfl ?_
            refine wp_iload (t := 62) rfl rfl ?_
            refine wp_iastore (t := 63) rfl (by omega) l3 (by omega) (by omega) (by omega) (zb3 h47 h54) ?_
            refine wp_canon (fun hI7 => ?_)
            refine wp_aload_n (t := 64) rfl rfl ?_
            refine wp_getR (t := 65) (ji := 7) rfl fX4_80 rfl rfl (by omega) (by first | rfl | assumption) (by first | exact hW _ _ _ (by omega) rfl | assumption) ?_
            refine wp_iload_n (t := 66) rfl rfl ?_
            refine wp_iload (t := 67) rfl rfl ?_
            refine wp_iastore (t := 68) rfl (by omega) l4 (by omega) (by omega) (by omega) zb4 ?_
            refine wp_canon (fun hI8 => ?_)
            refine wp_aload_n (t := 69) rfl rfl ?_
            refine wp_dup (t := 70) rfl rfl ?_
            refine wp_getI (t := 71) (ji := 2) rfl fX4_59 rfl rfl (by omega) (by first | rfl | assumption) ?_
            rw [show zu (zu (zu (zu I73 (o + 1) c r18) (o + 2) c r28) (o + 3) c r39) (o + 4) c r73 o 2 = c by rw [zu_ne (by omega), zu_ne (by omega), zu_ne (by omega), zu_ne (by omega), fm o (by omega) (by omega)]; exact hcv]
            refine wp_iconst (t := 72) rfl ?_
            refine wp_iadd (t := 73) rfl ?_
            refine wp_putI (t := 74) (ji := 2) rfl fX4_59 p2_2 rfl rfl (by omega) (by first | rfl | assumption) (by first | assumption | exact hI8 _ _ | exact hI7 _ _ | exact hI6 _ _ | exact hI5 _ _ | exact hI4 _ _ | exact hI3 _ _ | exact hI2 _ _ | exact hI1 _ _ | exact hI0 _ _ | exact zin_and _ _ | (unfold zin; omega) | (unfold zin at *; omega)) ?_
            refine wp_canon (fun hI9 => ?_)
            refine wp_iconst (t := 75) rfl ?_
            refine wp_zreturn (t := 76) rfl rfl (by omega) ?_
            refine ⟨_, rfl, ⟨(if_pos ⟨by omega, by omega, by omega, by omega, by omega, by omega⟩).symm, fun _ => ⟨?_, ?_⟩, fun b b1 b2 => ?_⟩, rfl⟩
            · rw [e18, q1, q2, e73]
              exact cRd_core ho hr hS hcn hc6 fm w73
            · rw [zu_ne (by omega), zu_ne (by omega), zu_ne (by omega), zu_ne (by omega), zu_ne (by omega)]
              exact a73 h82
            · rw [zu_ne (by omega), zu_ne (by omega), zu_ne (by omega), zu_ne (by omega), zu_ne (by omega)]
              exact fm b b1 (by omega)
          · refine wp_iconst (t := 47) rfl ?_
            refine wp_zreturn (t := 48) rfl rfl (by omega) ?_
            refine ⟨_, rfl, ⟨(if_neg (fun k => ?_)).symm, fun q => absurd rfl q, fun b b1 b2 => fm b b1 (by omega)⟩, rfl⟩
            rw [if_neg (fun q => by rcases q with q | q; exact k.2.2.2.2.1 q; exact q k.2.2.2.2.2)] at e73
            omega
        · refine wp_iconst (t := 35) rfl ?_
          refine wp_zreturn (t := 36) rfl rfl (by omega) ?_
          exact ⟨_, rfl, ⟨(if_neg (fun k => by have := k.2.2.2.1; have := e39 h47 h54; omega)).symm, fun q => absurd rfl q, fun b b1 b2 => fr b b1⟩, rfl⟩
  · refine wp_iconst (t := 6) rfl ?_
    refine wp_zreturn (t := 7) rfl rfl (by omega) ?_
    exact ⟨_, rfl, ⟨(if_neg (fun k => by have := k.1; omega)).symm, fun q => absurd rfl q, fun b b1 b2 => rfl⟩, rfl⟩
set_option maxHeartbeats 4000000 in
set_option maxRecDepth 100000 in
theorem c_X4_readRule {G : zG} {d n o : Nat} {I : zMem} {R : zRef} {S : pS} {p : Int} (ho : o = 4 ∨ o = 34) (hW : zWir n R) (hn : 115 ≤ n) (hlen : 0 ≤ I 1 1 ∧ I 1 1 ≤ 200) (hp : 0 ≤ p ∧ p ≤ 200) (hat : I 3 1 = p + 1) (hr : cRd I o S) (hS : pGood S) : MT G mX4_readRule (d + 2) 0 0 [zR 3, zR o] n I R (zP1 (fun r I' R' => (r = (if pRok (I 2) (I 1 1) S p then 1 else 0) ∧ (¬ r = 0 → cRd I' o (pUpR (I 2) (I 1 1) S p) ∧ I' 3 1 = (pR2 (I 2) (I 1 1) S p).2) ∧ cFr I I' o) ∧ R' = R)) := by
  refine MT.of (by decide +kernel) tX4_readRule_ok (Nat.le_of_ble_eq_true rfl) (fun hI0 => ?_)
  obtain ⟨l0, l1, l2, l3, l4, l5, l6, l7, l8, o1, o2⟩ := zco ho
  obtain ⟨w1, w2, w3, w4, w5, w6, w7, w8⟩ := zcr ho hW hn
  have hcn := hr.1.2.2.1
  have hrn := hr.1.2.2.2
  have hco := hS.2.2.1
  have hru := hS.2.2.2.1
  generalize hcv : I o 2 = c at hcn
  generalize hbv : I o 3 = b9 at hrn
  refine wp_ls (ls' := [some (zR 3), some (zR o), none, none, none]) rfl ?_
  refine wp_aload_n (t := 0) rfl rfl ?_
  refine wp_getI (t := 1) (ji := 3) rfl fX4_83 rfl rfl (by omega) (by first | rfl | assumption) ?_
  rw [hbv]
  refine wp_istore_n (t := 2) rfl (by decide) rfl ?_
  refine wp_iload_n (t := 3) rfl rfl ?_
  refine wp_bipush (t := 4) rfl (by decide) ?_
  refine wp_icmp_lt (t := 5) (tgt := 13) rfl (by decide) (by first | assumption | exact hI0 _ _ | exact zin_and _ _ | (unfold zin; omega) | (unfold zin at *; omega)) (by first | assumption | exact hI0 _ _ | exact zin_and _ _ | (unfold zin; omega) | (unfold zin at *; omega)) (fun h8 => ?_) (fun h8 => ?_)
  · refine wp_aload_n (t := 8) rfl rfl ?_
    refine wp_iconst (t := 9) rfl ?_
    refine wp_aload_n (t := 10) rfl rfl ?_
    refine wp_getI (t := 11) (ji := 2) rfl fX4_59 rfl rfl (by omega) (by first | rfl | assumption) ?_
    rw [hcv]
    refine wp_iconst (t := 12) rfl ?_
    refine wp_isub (t := 13) rfl ?_
    refine wp_bipush (t := 14) rfl (by decide) ?_
    refine wp_vi (ci := 4) (c_X4_number (d := d) hW hn hlen ⟨by omega, by omega⟩ (by omega) (by unfold zin; omega) (by unfold zin; omega) (by unfold zin; omega)) (t := 15) rfl kX4_49 rfl rfl (by omega) (by first | rfl | assumption) ⟨_, _, rfl⟩ (Nat.le_of_ble_eq_true rfl) ⟨Nat.le_refl _, Nat.le_refl _⟩ (fun r23 I23 R23 c23 => ?_)
    refine wp_canon (fun hI1 => ?_)
    obtain ⟨⟨e23, a23, b23, f23⟩, zr23⟩ := c23
    have zr23 := zr23.symm
    subst zr23
    rw [hat, hcn] at e23 a23
    have e23 : r23 = (pR1 (I 2) (I 1 1) S p).1 := e23
    have a23 : ¬ r23 = -4 → I23 3 1 = (pR1 (I 2) (I 1 1) S p).2 := a23
    have y1 : I23 1 = I 1 := f23 1 (by decide)
    have y2 : I23 2 = I 2 := f23 2 (by decide)
    have yc : I23 o 2 = c := by rw [f23 o (by omega)]; exact hcv
    refine wp_istore_n (t := 16) rfl (by decide) rfl ?_
    refine wp_aload_n (t := 17) rfl rfl ?_
    refine wp_iconst (t := 18) rfl ?_
    refine wp_aload_n (t := 19) rfl rfl ?_
    refine wp_getI (t := 20) (ji := 2) rfl fX4_59 rfl rfl (by omega) (by first | rfl | assumption) ?_
    rw [yc]
    refine wp_iconst (t := 21) rfl ?_
    refine wp_isub (t := 22) rfl ?_
    refine wp_bipush (t := 23) rfl (by decide) ?_
    refine wp_vi (ci := 4) (c_X4_number (d := d) hW hn (by rw [y1]; exact hlen) ⟨by omega, by omega⟩ (by omega) (by unfold zin; omega) (by unfold zin; omega) (by unfold zin; omega)) (t := 24) rfl kX4_49 rfl rfl (by omega) (by first | rfl | assumption) ⟨_, _, rfl⟩ (Nat.le_of_ble_eq_true rfl) ⟨Nat.le_refl _, Nat.le_refl _⟩ (fun r37 I37 R37 c37 => ?_)
    refine wp_canon (fun hI2 => ?_)
    obtain ⟨⟨e37, a37, b37, f37⟩, zr37⟩ := c37
    have zr37 := zr37.symm
    subst zr37
    rw [y1, y2, hcn] at e37 a37
    have e37 : ¬ r23 = -4 → r37 = (pR2 (I 2) (I 1 1) S p).1 := fun q => by rw [e37, a23 q]; rfl
    have a37 : ¬ r23 = -4 → ¬ r37 = -4 → I37 3 1 = (pR2 (I 2) (I 1 1) S p).2 := fun q q2 => by rw [a37 q2, a23 q]; rfl
    have fr : ∀ b : Nat, b ≠ 3 → I37 b = I b := fun b hb => by rw [f37 b hb, f23 b hb]
    have zb1 : zin r23 := by
      rcases pNum_b (T := I 2) (L := I 1 1) (lo := 0) (hi := S.1.2.2.1 - 1) (sg := 44) (p := p + 1) with q | q
      · have : (pR1 (I 2) (I 1 1) S p).1 = -4 := by unfold pR1; rw [q]
        unfold zin; omega
      · have q : 0 ≤ (pR1 (I 2) (I 1 1) S p).1 ∧ (pR1 (I 2) (I 1 1) S p).1 ≤ 99 := q.2.2.1
        unfold zin; omega
    have zb2 : ¬ r23 = -4 → zin r37 := fun q9 => by
      have q8 := e37 q9
      rcases pNum_b (T := I 2) (L := I 1 1) (lo := 0) (hi := S.1.2.2.1 - 1) (sg := 59) (p := (pR1 (I 2) (I 1 1) S p).2) with q | q
      · have : (pR2 (I 2) (I 1 1) S p).1 = -4 := by unfold pR2; rw [q]
        unfold zin; omega
      · have q : 0 ≤ (pR2 (I 2) (I 1 1) S p).1 ∧ (pR2 (I 2) (I 1 1) S p).1 ≤ 99 := q.2.2.1
        unfold zin; omega
    refine wp_istore (t := 25) rfl (by decide) rfl ?_
    refine wp_iload_n (t := 26) rfl rfl ?_
    refine wp_bipush (t := 27) rfl (by decide) ?_
    refine wp_icmp_eq (t := 28) (tgt := 61) rfl (by decide) zb1 (by first | assumption | exact hI2 _ _ | exact hI1 _ _ | exact hI0 _ _ | exact zin_and _ _ | (unfold zin; omega) | (unfold zin at *; omega)) (fun h45 => ?_) (fun h45 => ?_)
    · refine wp_iconst (t := 35) rfl ?_
      refine wp_zreturn (t := 36) rfl rfl (by omega) ?_
      exact ⟨_, rfl, ⟨(if_neg (fun k => by have := k.2.1; omega)).symm, fun q => absurd rfl q, fun b b1 b2 => fr b b1⟩, rfl⟩
    · refine wp_iload (t := 29) rfl rfl ?_
      refine wp_bipush (t := 30) rfl (by decide) ?_
      refine wp_icmp_eq (t := 31) (tgt := 61) rfl (by decide) (zb2 (by assumption)) (by first | assumption | exact hI2 _ _ | exact hI1 _ _ | exact hI0 _ _ | exact zin_and _ _ | (unfold zin; omega) | (unfold zin at *; omega)) (fun h52 => ?_) (fun h52 => ?_)
      · refine wp_iconst (t := 35) rfl ?_
        refine wp_zreturn (t := 36) rfl rfl (by omega) ?_
        exact ⟨_, rfl, ⟨(if_neg (fun k => by have := k.2.2.1; have := e37 h45; omega)).symm, fun q => absurd rfl q, fun b b1 b2 => fr b b1⟩, rfl⟩
      · refine wp_iload_n (t := 32) rfl rfl ?_
        refine wp_iload (t := 33) rfl rfl ?_
        refine wp_icmp_lt (t := 34) (tgt := 63) rfl (by decide) zb1 (zb2 (by assumption)) (fun h58 => ?_) (fun h58 => ?_)
        · have q1 := e37 h45
          refine wp_aload_n (t := 37) rfl rfl ?_
          refine wp_getR (t := 38) (ji := 9) rfl fX4_86 rfl rfl (by omega) (by first | rfl | assumption) (by first | exact hW _ _ _ (by omega) rfl | assumption) ?_
          refine wp_iload_n (t := 39) rfl rfl ?_
          refine wp_iload_n (t := 40) rfl rfl ?_
          refine wp_iastore (t := 41) rfl (by omega) l7 (by omega) (by omega) (by omega) zb1 ?_
          refine wp_canon (fun hI3 => ?_)
          refine wp_aload_n (t := 42) rfl rfl ?_
          refine wp_getR (t := 43) (ji := 10) rfl fX4_89 rfl rfl (by omega) (by first | rfl | assumption) (by first | exact hW _ _ _ (by omega) rfl | assumption) ?_
          refine wp_iload_n (t := 44) rfl rfl ?_
          refine wp_iload (t := 45) rfl rfl ?_
          refine wp_iastore (t := 46) rfl (by omega) l8 (by omega) (by omega) (by omega) (zb2 h45) ?_
          refine wp_canon (fun hI4 => ?_)
          refine wp_aload_n (t := 47) rfl rfl ?_
          refine wp_dup (t := 48) rfl rfl ?_
          refine wp_getI (t := 49) (ji := 3) rfl fX4_83 rfl rfl (by omega) (by first | rfl | assumption) ?_
          rw [show zu (zu I37 (o + 12) b9 r23) (o + 13) b9 r37 o 3 = b9 by rw [zu_ne (by omega), zu_ne (by omega), fr o (by omega)]; exact hbv]
          refine wp_iconst (t := 50) rfl ?_
          refine wp_iadd (t := 51) rfl ?_
          refine wp_putI (t := 52) (ji := 3) rfl fX4_83 p2_3 rfl rfl (by omega) (by first | rfl | assumption) (by first | assumption | exact hI4 _ _ | exact hI3 _ _ | exact hI2 _ _ | exact hI1 _ _ | exact hI0 _ _ | exact zin_and _ _ | (unfold zin; omega) | (unfold zin at *; omega)) ?_
          refine wp_canon (fun hI5 => ?_)
          refine wp_iconst (t := 53) rfl ?_
          refine wp_zreturn (t := 54) rfl rfl (by omega) ?_
          refine ⟨_, rfl, ⟨(if_pos ⟨by omega, by omega, by omega, by omega⟩).symm, fun _ => ⟨?_, ?_⟩, fun b b1 b2 => ?_⟩, rfl⟩
          · obtain ⟨g1, g2, g3⟩ := cRd_ext (J := I37) (fun b b1 b2 => fr b (by omega)) hS hr
            refine ⟨⟨?_, ?_, ?_, ?_⟩, fun c c0 c1 => ?_, fun b b0 b1 => ?_⟩
            · rw [zu_ni (by decide), zu_ne (by omega), zu_ne (by omega)]; exact g1.1
            · rw [zu_ni (by decide), zu_ne (by omega), zu_ne (by omega)]; exact g1.2.1
            · rw [zu_ni (by decide), zu_ne (by omega), zu_ne (by omega)]; exact g1.2.2.1
            · rw [zu_eq, hrn]; rfl
            · have c2 : c < S.1.2.2.1 := c1
              rw [zu_ne (b := o + 1) (by omega), zu_ne (b := o + 1) (by omega), zu_ne (b := o + 1) (by omega), zu_ne (b := o + 2) (by omega), zu_ne (b := o + 2) (by omega), zu_ne (b := o + 2) (by omega), zu_ne (b := o + 3) (by omega), zu_ne (b := o + 3) (by omega), zu_ne (b := o + 3) (by omega), zu_ne (b := o + 4) (by omega), zu_ne (b := o + 4) (by omega), zu_ne (b := o + 4) (by omega), zu_ne (b := o + 6 + c.toNat) (by omega), zu_ne (b := o + 6 + c.toNat) (by omega), zu_ne (b := o + 6 + c.toNat) (by omega)]
              exact g2 c c0 c1
            · have b1 : b < S.1.2.2.2 + 1 := b1
              rw [zu_ne (b := o + 12) (by omega), zu_ne (b := o + 12) (by omega), zu_ne (b := o + 13) (by omega)]
              show _ = pu S.2.2.2.2.2.2.1 S.1.2.2.2 (pR1 (I 2) (I 1 1) S p).1 b ∧ _ = pu S.2.2.2.2.2.2.2 S.1.2.2.2 (pR2 (I 2) (I 1 1) S p).1 b
              rw [← hrn]
              by_cases e : b = b9
              · rw [e, pu_i, pu_i, zu_eq, zu_eq]
                exact ⟨e23, q1⟩
              · rw [pu_n e, pu_n e, zu_ni e, zu_ni e, zu_ne (b := o + 13) (by omega)]
                exact g3 b b0 (by omega)
          · rw [zu_ne (by omega), zu_ne (by omega), zu_ne (by omega)]
            exact a37 h45 h52
          · rw [zu_ne (by omega), zu_ne (by omega), zu_ne (by omega)]
            exact fr b b1
        · refine wp_iconst (t := 35) rfl ?_
          refine wp_zreturn (t := 36) rfl rfl (by omega) ?_
          exact ⟨_, rfl, ⟨(if_neg (fun k => by have := k.2.2.2; have := e37 h45; omega)).symm, fun q => absurd rfl q, fun b b1 b2 => fr b b1⟩, rfl⟩
  · refine wp_iconst (t := 6) rfl ?_
    refine wp_zreturn (t := 7) rfl rfl (by omega) ?_
    exact ⟨_, rfl, ⟨(if_neg (fun k => by have := k.1; omega)).symm, fun q => absurd rfl q, fun b b1 b2 => rfl⟩, rfl⟩
