/-! the reference reads a text -/
def mLet (I : zMem) (p : Int) : Int := if p < I 115 20 then I 127 p else -1
/-- the frame of reading in the reference -/
def mFr (I J : zMem) : Prop := (∀ b : Nat, b ≠ 115 → (b < 128 ∨ 134 < b) → J b = I b) ∧ ∀ j : Int, (j < 21 ∨ 26 < j) → J 115 j = I 115 j
theorem mFr_trans {I J K : zMem} (h : mFr I J) (h2 : mFr J K) : mFr I K := ⟨fun b h0 h1 => (h2.1 b h0 h1).trans (h.1 b h0 h1), fun j h0 => (h2.2 j h0).trans (h.2 j h0)⟩
theorem mFr_refl (I : zMem) : mFr I I := ⟨fun _ _ _ => rfl, fun _ _ => rfl⟩
theorem mFr_u {I J : zMem} {j v : Int} (h : mFr I J) (hj : 21 ≤ j ∧ j ≤ 26) : mFr I (zu J 115 j v) := ⟨fun b h0 h1 => by rw [zu_ne h0]; exact h.1 b h0 h1, fun i h0 => by rw [zu_ni (by omega)]; exact h.2 i h0⟩
theorem mFr_a {I J : zMem} {a : Nat} {j v : Int} (h : mFr I J) (hj : 128 ≤ a ∧ a ≤ 134) : mFr I (zu J a j v) := ⟨fun b h0 h1 => by rw [zu_ne (by omega)]; exact h.1 b h0 h1, fun i h0 => by rw [zu_ne (by omega)]; exact h.2 i h0⟩
theorem mLet_sg {I : zMem} {p sg : Int} (hp : 0 ≤ p) (hs : 0 ≤ sg) : mLet I p = sg ↔ pLet (I 127) (I 115 20) p = sg := by
  unfold mLet pLet
  by_cases h : p < I 115 20
  · rw [if_pos h, if_pos ⟨hp, h⟩]
  · rw [if_neg h, if_neg (fun q => h q.2)]
    omega
theorem mLet_fig {I : zMem} {p : Int} (hp : 0 ≤ p) : (48 ≤ mLet I p ∧ mLet I p ≤ 57) ↔ ¬ pFig (I 127) (I 115 20) p = -4 := by
  unfold mLet pFig
  by_cases h : p < I 115 20
  · rw [if_pos h]
    by_cases q : 48 ≤ I 127 p ∧ I 127 p ≤ 57
    · rw [if_pos ⟨⟨hp, h⟩, q⟩]
      omega
    · rw [if_neg (fun z => q z.2)]
      omega
  · rw [if_neg h, if_neg (fun z => h z.1.2)]
    omega
theorem mLet_val {I : zMem} {p : Int} (hp : 0 ≤ p) (h : 48 ≤ mLet I p ∧ mLet I p ≤ 57) : mLet I p - 48 = pFig (I 127) (I 115 20) p ∧ mLet I p = I 127 p := by
  have g := pFig_in ((mLet_fig hp).mp h)
  unfold mLet at *
  rw [if_pos g.1.2]
  omega
set_option maxHeartbeats 4000000 in
set_option maxRecDepth 100000 in
theorem c_X10_letter {G : zG} {d n : Nat} {I : zMem} {R : zRef} (hW : zWir n R) (hn : 143 ≤ n) (hlen : 0 ≤ I 115 20 ∧ I 115 20 ≤ 200) (hp : 0 ≤ I 115 21) : MT G mX10_letter d 0 0 [zR 115] n I R (zP1 (fun r I' R' => (r = mLet I (I 115 21) ∧ zin r) ∧ I' = I ∧ R' = R)) := by
  refine MT.of (by decide +kernel) tX10_letter_ok (Nat.le_of_ble_eq_true rfl) (fun hI0 => ?_)
  refine wp_ls (ls' := [some (zR 115)]) rfl ?_
  refine wp_aload_n (t := 0) rfl rfl ?_
  refine wp_getI (t := 1) (ji := 21) rfl fX10_137 rfl rfl (by omega) (by first | rfl | assumption) ?_
  refine wp_aload_n (t := 2) rfl rfl ?_
  refine wp_getI (t := 3) (ji := 20) rfl fX10_134 rfl rfl (by omega) (by first | rfl | assumption) ?_
  refine wp_icmp_ge (t := 4) (tgt := 23) rfl (by decide) (by first | assumption | exact hI0 _ _ | exact zin_and _ _ | (unfold zin; omega) | (unfold zin at *; omega)) (by first | assumption | exact hI0 _ _ | exact zin_and _ _ | (unfold zin; omega) | (unfold zin at *; omega)) (fun h8 => ?_) (fun h8 => ?_)
  · refine wp_iconst (t := 11) rfl ?_
    refine wp_ireturn (t := 12) rfl rfl ?_
    exact ⟨_, rfl, ⟨by unfold mLet; first | rw [if_pos (by omega)] | rw [if_neg (by omega)], by first | exact hI0 _ _ | (unfold zin; omega)⟩, rfl, rfl⟩
  · refine wp_aload_n (t := 5) rfl rfl ?_
    refine wp_getR (t := 6) (ji := 19) rfl fX10_43 rfl rfl (by omega) (by first | rfl | assumption) (by first | exact hW _ _ _ (by omega) rfl | assumption) ?_
    refine wp_aload_n (t := 7) rfl rfl ?_
    refine wp_getI (t := 8) (ji := 21) rfl fX10_137 rfl rfl (by omega) (by first | rfl | assumption) ?_
    refine wp_iaload (t := 9) rfl (by omega) (by first | rfl | assumption) (by omega) (by omega) (by omega) ?_
    refine wp_goto (t := 10) (tgt := 24) rfl (by decide) ?_
    refine wp_ireturn (t := 12) rfl rfl ?_
    exact ⟨_, rfl, ⟨by unfold mLet; first | rw [if_pos (by omega)] | rw [if_neg (by omega)], by first | exact hI0 _ _ | (unfold zin; omega)⟩, rfl, rfl⟩
set_option maxHeartbeats 4000000 in
set_option maxRecDepth 100000 in
theorem c_X10_isSign {G : zG} {d n : Nat} {I : zMem} {R : zRef} {sg : Int} (hW : zWir n R) (hn : 143 ≤ n) (hlen : 0 ≤ I 115 20 ∧ I 115 20 ≤ 200) (hp : 0 ≤ I 115 21 ∧ I 115 21 ≤ 10000) (hs : 0 ≤ sg ∧ sg ≤ 200) : MT G mX10_isSign (d + 1) 0 0 [zR 115, zI sg] n I R (zP1 (fun r I' R' => (r = (if pLet (I 127) (I 115 20) (I 115 21) = sg then 1 else 0) ∧ (¬ r = 0 → I' 115 21 = I 115 21 + 1) ∧ (I 115 21 ≤ I' 115 21 ∧ I' 115 21 ≤ I 115 21 + 1) ∧ (∀ j : Int, j ≠ 21 → I' 115 j = I 115 j) ∧ ∀ b : Nat, b ≠ 115 → I' b = I b) ∧ R' = R)) := by
  refine MT.of (by decide +kernel) tX10_isSign_ok (Nat.le_of_ble_eq_true rfl) (fun hI0 => ?_)
  have hsg := mLet_sg (I := I) (p := I 115 21) (sg := sg) hp.1 hs.1
  refine wp_ls (ls' := [some (zR 115), some (zI sg), none]) rfl ?_
  refine wp_aload_n (t := 0) rfl rfl ?_
  refine wp_vi (ci := 10) (c_X10_letter (d := d) hW hn hlen hp.1) (t := 1) rfl kX10_140 rfl rfl (by omega) (by first | rfl | assumption) ⟨_, _, rfl⟩ (Nat.le_of_ble_eq_true rfl) ⟨Nat.le_refl _, Nat.le_refl _⟩ (fun r1 I1 R1 c1 => ?_)
  refine wp_canon (fun hI1 => ?_)
  obtain ⟨⟨e1, b1⟩, zi1, zr1⟩ := c1
  have zi1 := zi1.symm
  subst zi1
  have zr1 := zr1.symm
  subst zr1
  refine wp_iload_n (t := 2) rfl rfl ?_
  refine wp_icmp_ne (t := 3) (tgt := 12) rfl (by decide) (by first | assumption | exact hI1 _ _ | exact hI0 _ _ | exact zin_and _ _ | (unfold zin; omega) | (unfold zin at *; omega)) (by first | assumption | exact hI1 _ _ | exact hI0 _ _ | exact zin_and _ _ | (unfold zin; omega) | (unfold zin at *; omega)) (fun h5 => ?_) (fun h5 => ?_)
  · refine wp_iconst (t := 6) rfl ?_
    refine wp_istore_n (t := 7) rfl (by decide) rfl ?_
    refine wp_aload_n (t := 8) rfl rfl ?_
    refine wp_dup (t := 9) rfl rfl ?_
    refine wp_getI (t := 10) (ji := 21) rfl fX10_137 rfl rfl (by omega) (by first | rfl | assumption) ?_
    refine wp_iload_n (t := 11) rfl rfl ?_
    refine wp_if_eq (t := 12) (tgt := 27) rfl (by decide) (by first | assumption | exact hI1 _ _ | exact hI0 _ _ | exact zin_and _ _ | (unfold zin; omega) | (unfold zin at *; omega)) (fun h20 => ?_) (fun h20 => ?_)
    · refine wp_iconst (t := 15) rfl ?_
      refine wp_iadd (t := 16) rfl ?_
      refine wp_putI (t := 17) (ji := 21) rfl fX10_137 p10_21 rfl rfl (by omega) (by first | rfl | assumption) (by first | assumption | exact hI1 _ _ | exact hI0 _ _ | exact zin_and _ _ | (unfold zin; omega) | (unfold zin at *; omega)) ?_
      refine wp_canon (fun hI2 => ?_)
      refine wp_iload_n (t := 18) rfl rfl ?_
      refine wp_zreturn (t := 19) rfl rfl (by omega) ?_
      exact ⟨_, rfl, ⟨(if_neg (fun q => by have := hsg.mpr q; omega)).symm, fun q => absurd rfl q, by rw [zu_eq]; omega, fun j hj => zu_ni hj, fun b hb => zu_ne hb⟩, rfl⟩
    · exact absurd h20 (by omega)
  · refine wp_iconst (t := 4) rfl ?_
    refine wp_goto (t := 5) (tgt := 13) rfl (by decide) ?_
    refine wp_istore_n (t := 7) rfl (by decide) rfl ?_
    refine wp_aload_n (t := 8) rfl rfl ?_
    refine wp_dup (t := 9) rfl rfl ?_
    refine wp_getI (t := 10) (ji := 21) rfl fX10_137 rfl rfl (by omega) (by first | rfl | assumption) ?_
    refine wp_iload_n (t := 11) rfl rfl ?_
    refine wp_if_eq (t := 12) (tgt := 27) rfl (by decide) (by first | assumption | exact hI1 _ _ | exact hI0 _ _ | exact zin_and _ _ | (unfold zin; omega) | (unfold zin at *; omega)) (fun h20 => ?_) (fun h20 => ?_)
    · exact absurd h20 (by omega)
    · refine wp_iconst (t := 13) rfl ?_
      refine wp_goto (t := 14) (tgt := 28) rfl (by decide) ?_
      refine wp_iadd (t := 16) rfl ?_
      refine wp_putI (t := 17) (ji := 21) rfl fX10_137 p10_21 rfl rfl (by omega) (by first | rfl | assumption) (by first | assumption | exact hI1 _ _ | exact hI0 _ _ | exact zin_and _ _ | (unfold zin; omega) | (unfold zin at *; omega)) ?_
      refine wp_canon (fun hI2 => ?_)
      refine wp_iload_n (t := 18) rfl rfl ?_
      refine wp_zreturn (t := 19) rfl rfl (by omega) ?_
      exact ⟨_, rfl, ⟨(if_pos (hsg.mp (by omega))).symm, fun _ => zu_eq, by rw [zu_eq]; omega, fun j hj => zu_ni hj, fun b hb => zu_ne hb⟩, rfl⟩
/-- figures so far: k of them from p on, their number v -/
def mDg (T : Int → Int) (L p k v : Int) : Prop := (k = 0 ∧ v = 0) ∨ (k = 1 ∧ ¬ pFig T L p = -4 ∧ v = pFig T L p) ∨ (k = 2 ∧ ¬ pFig T L p = -4 ∧ ¬ pFig T L (p + 1) = -4 ∧ v = 10 * pFig T L p + pFig T L (p + 1)) ∨ (k = 3 ∧ ¬ pFig T L p = -4 ∧ ¬ pFig T L (p + 1) = -4 ∧ ¬ pFig T L (p + 2) = -4)
set_option maxHeartbeats 4000000 in
set_option maxRecDepth 100000 in
theorem c_X10_takesNumber {G : zG} {d n : Nat} {I : zMem} {R : zRef} {lo hi p : Int} (hW : zWir n R) (hn : 143 ≤ n) (hlen : 0 ≤ I 115 20 ∧ I 115 20 ≤ 200) (hat : I 115 21 = p) (hp : 0 ≤ p ∧ p ≤ 1000) (hlo : zin lo) (hhi : zin hi) : MT G mX10_takesNumber (d + 1) 0 0 [zR 115, zI lo, zI hi] n I R (zP1 (fun r I' R' => ((r = 0 ∨ (r = 1 ∧ ¬ pFig (I 127) (I 115 20) p = -4 ∧ I' 115 21 = pEnd (I 127) (I 115 20) p ∧ I' 115 22 = pVal (I 127) (I 115 20) p ∧ lo ≤ pVal (I 127) (I 115 20) p ∧ pVal (I 127) (I 115 20) p ≤ hi)) ∧ (r = 0 → ∀ sg : Int, (sg = 44 ∨ sg = 59) → ¬ pNok (I 127) (I 115 20) lo hi sg p) ∧ (p ≤ I' 115 21 ∧ I' 115 21 ≤ p + 3) ∧ (∀ j : Int, j ≠ 21 → j ≠ 22 → I' 115 j = I 115 j) ∧ ∀ b : Nat, b ≠ 115 → I' b = I b) ∧ R' = R)) := by
  refine MT.of (by decide +kernel) tX10_takesNumber_ok (Nat.le_of_ble_eq_true rfl) (fun hI0 => ?_)
  have fb := fun x => pFig_b (I 127) (I 115 20) x
  have fb0 := fb p
  have fb1 := fb (p + 1)
  have fb2 := fb (p + 2)
  -- behind the figures
  have tail : ∀ (J : zMem) (k v : Int), 0 ≤ k → k ≤ 3 → J 115 21 = p + k → J 115 22 = v → mDg (I 127) (I 115 20) p k v → (k < 3 → pFig (I 127) (I 115 20) (p + k) = -4) → (0 ≤ v ∧ v ≤ 999) → (∀ j : Int, j ≠ 21 → j ≠ 22 → J 115 j = I 115 j) → (∀ b : Nat, b ≠ 115 → J b = I b) →
      WP G mX10_takesNumber (d + 1) 0 0 0 0 69 [some (zR 115), some (zI lo), some (zI hi), some (zI p)] [] n J R (zP1 (fun r I' R' => ((r = 0 ∨ (r = 1 ∧ ¬ pFig (I 127) (I 115 20) p = -4 ∧ I' 115 21 = pEnd (I 127) (I 115 20) p ∧ I' 115 22 = pVal (I 127) (I 115 20) p ∧ lo ≤ pVal (I 127) (I 115 20) p ∧ pVal (I 127) (I 115 20) p ≤ hi)) ∧ (r = 0 → ∀ sg : Int, (sg = 44 ∨ sg = 59) → ¬ pNok (I 127) (I 115 20) lo hi sg p) ∧ (p ≤ I' 115 21 ∧ I' 115 21 ≤ p + 3) ∧ (∀ j : Int, j ≠ 21 → j ≠ 22 → I' 115 j = I 115 j) ∧ ∀ b : Nat, b ≠ 115 → I' b = I b) ∧ R' = R)) := by
    intro J k v k0 k3 h21 h22 hd hs hv f1 f2
    have big : k = 3 → ∀ sg : Int, (sg = 44 ∨ sg = 59) → ¬ pNok (I 127) (I 115 20) lo hi sg p := fun e sg hsg ok => by
      rcases hd with q | q | q | q
      · omega
      · omega
      · omega
      · have e2 : pEnd (I 127) (I 115 20) p = p + 2 := if_neg q.2.2.1
        have g := pFig_in q.2.2.2
        have o2 := ok.2.1
        rw [e2] at o2
        unfold pLet at o2
        rw [if_pos g.1] at o2
        omega
    have few : k = 0 → ∀ sg : Int, (sg = 44 ∨ sg = 59) → ¬ pNok (I 127) (I 115 20) lo hi sg p := fun e sg hsg ok => by
      have := hs (by omega)
      rw [e, Int.add_zero] at this
      exact ok.1 this
    have mid : 1 ≤ k → k ≤ 2 → ¬ pFig (I 127) (I 115 20) p = -4 ∧ pEnd (I 127) (I 115 20) p = p + k ∧ pVal (I 127) (I 115 20) p = v := fun g1 g2 => by
      have hs := hs (by omega)
      rcases hd with q | q | q | q
      · omega
      · rw [q.1] at hs
        refine ⟨q.2.1, ?_, ?_⟩
        · unfold pEnd
          rw [if_pos hs, q.1]
        · unfold pVal
          rw [if_pos hs, q.2.2]
      · refine ⟨q.2.1, ?_, ?_⟩
        · unfold pEnd
          rw [if_neg q.2.2.1, q.1]
        · unfold pVal
          rw [if_neg q.2.2.1, q.2.2.2]
      · omega
    refine wp_canon (fun hI0 => ?_)
    refine wp_aload_n (t := 37) rfl rfl ?_
    refine wp_getI (t := 38) (ji := 21) rfl fX10_137 rfl rfl (by omega) (by first | rfl | assumption) ?_
    rw [h21]
    refine wp_iload_n (t := 39) rfl rfl ?_
    refine wp_isub (t := 40) rfl ?_
    refine wp_i2l (t := 41) rfl (by first | assumption | exact hI0 _ _ | exact zin_and _ _ | (unfold zin; omega) | (unfold zin at *; omega)) ?_
    refine wp_lconst 1 (t := 42) rfl (by decide) ?_
    refine wp_ldc2 (2) (t := 43) rfl (wsL_law_r18_l (List.mem_of_getElem? (i := 3) rfl)) (by decide) ?_
    refine wp_si (c_X10_in (d := d) (by unfold zinL; omega) (by unfold zinL; omega) (by unfold zinL; omega)) (t := 44) rfl kX10_124 rfl rfl (Nat.le_of_ble_eq_true rfl) ⟨Nat.le_refl _, Nat.le_refl _⟩ (fun r80 I80 R80 c80 => ?_)
    refine wp_canon (fun hI1 => ?_)
    obtain ⟨e80, zi80, zr80⟩ := c80
    have zi80 := zi80.symm
    subst zi80
    have zr80 := zr80.symm
    subst zr80
    have b80 : 0 ≤ r80 ∧ r80 ≤ 1 := by rw [e80]; split <;> omega
    have n80 : ¬ r80 = 0 → 1 ≤ p + k - p ∧ p + k - p ≤ 2 := fun h => by (rw [e80] at h; by_cases q : 1 ≤ p + k - p ∧ p + k - p ≤ 2; exact q; rw [if_neg q] at h; exact absurd rfl h)
    have m80 : r80 = 0 → ¬ (1 ≤ p + k - p ∧ p + k - p ≤ 2) := fun h q => by (rw [e80, if_pos q] at h; exact absurd h (by decide))
    refine wp_if_eq (t := 45) (tgt := 105) rfl (by decide) (by first | assumption | exact hI1 _ _ | exact hI0 _ _ | exact zin_and _ _ | (unfold zin; omega) | (unfold zin at *; omega)) (fun h83 => ?_) (fun h83 => ?_)
    · refine wp_iconst (t := 57) rfl ?_
      refine wp_zreturn (t := 58) rfl rfl (by omega) ?_
      refine ⟨_, rfl, ⟨Or.inl rfl, fun _ => ?_, ⟨by omega, by omega⟩, f1, f2⟩, rfl⟩
      have nn := m80 h83
      by_cases e : k = 0
      · exact few e
      · exact big (by omega)
    · refine wp_aload_n (t := 46) rfl rfl ?_
      refine wp_getI (t := 47) (ji := 22) rfl fX10_144 rfl rfl (by omega) (by first | rfl | assumption) ?_
      rw [h22]
      refine wp_i2l (t := 48) rfl (by first | assumption | exact hI1 _ _ | exact hI0 _ _ | exact zin_and _ _ | (unfold zin; omega) | (unfold zin at *; omega)) ?_
      refine wp_iload_n (t := 49) rfl rfl ?_
      refine wp_i2l (t := 50) rfl (by first | assumption | exact hI1 _ _ | exact hI0 _ _ | exact zin_and _ _ | (unfold zin; omega) | (unfold zin at *; omega)) ?_
      refine wp_iload_n (t := 51) rfl rfl ?_
      refine wp_i2l (t := 52) rfl (by first | assumption | exact hI1 _ _ | exact hI0 _ _ | exact zin_and _ _ | (unfold zin; omega) | (unfold zin at *; omega)) ?_
      refine wp_si (c_X10_in (d := d) (by unfold zinL; omega) (zin_long hlo) (zin_long hhi)) (t := 53) rfl kX10_124 rfl rfl (Nat.le_of_ble_eq_true rfl) ⟨Nat.le_refl _, Nat.le_refl _⟩ (fun r95 I95 R95 c95 => ?_)
      refine wp_canon (fun hI2 => ?_)
      obtain ⟨e95, zi95, zr95⟩ := c95
      have zi95 := zi95.symm
      subst zi95
      have zr95 := zr95.symm
      subst zr95
      have b95 : 0 ≤ r95 ∧ r95 ≤ 1 := by rw [e95]; split <;> omega
      have n95 : ¬ r95 = 0 → lo ≤ v ∧ v ≤ hi := fun h => by (rw [e95] at h; by_cases q : lo ≤ v ∧ v ≤ hi; exact q; rw [if_neg q] at h; exact absurd rfl h)
      have m95 : r95 = 0 → ¬ (lo ≤ v ∧ v ≤ hi) := fun h q => by (rw [e95, if_pos q] at h; exact absurd h (by decide))
      refine wp_if_eq (t := 54) (tgt := 105) rfl (by decide) (by first | assumption | exact hI2 _ _ | exact hI1 _ _ | exact hI0 _ _ | exact zin_and _ _ | (unfold zin; omega) | (unfold zin at *; omega)) (fun h98 => ?_) (fun h98 => ?_)
      · refine wp_iconst (t := 57) rfl ?_
        refine wp_zreturn (t := 58) rfl rfl (by omega) ?_
        refine ⟨_, rfl, ⟨Or.inl rfl, fun _ => ?_, ⟨by omega, by omega⟩, f1, f2⟩, rfl⟩
        have nn := m95 h98
        have n2 := n80 h83
        have md := mid (by omega) (by omega)
        exact fun sg hsg ok => by have := ok.2.2; omega
      · refine wp_iconst (t := 55) rfl ?_
        refine wp_goto (t := 56) (tgt := 106) rfl (by decide) ?_
        refine wp_zreturn (t := 58) rfl rfl (by omega) ?_
        have nn := n95 h98
        have n2 := n80 h83
        have md := mid (by omega) (by omega)
        exact ⟨_, rfl, ⟨Or.inr ⟨rfl, md.1, by omega, by omega, by omega, by omega⟩, fun q => absurd q (by decide), ⟨by omega, by omega⟩, f1, f2⟩, rfl⟩
  have key : ∀ (f : Nat) (J : zMem) (k v : Int), 0 ≤ k → k + f = 3 → J 115 21 = p + k → J 115 22 = v → mDg (I 127) (I 115 20) p k v → (0 ≤ v ∧ v ≤ 999) → (k ≤ 2 → v ≤ 99) → (k ≤ 1 → v ≤ 9) → (∀ j : Int, j ≠ 21 → j ≠ 22 → J 115 j = I 115 j) → (∀ b : Nat, b ≠ 115 → J b = I b) →
      WP G mX10_takesNumber (d + 1) 0 0 0 0 10 [some (zR 115), some (zI lo), some (zI hi), some (zI p)] [] n J R (zP1 (fun r I' R' => ((r = 0 ∨ (r = 1 ∧ ¬ pFig (I 127) (I 115 20) p = -4 ∧ I' 115 21 = pEnd (I 127) (I 115 20) p ∧ I' 115 22 = pVal (I 127) (I 115 20) p ∧ lo ≤ pVal (I 127) (I 115 20) p ∧ pVal (I 127) (I 115 20) p ≤ hi)) ∧ (r = 0 → ∀ sg : Int, (sg = 44 ∨ sg = 59) → ¬ pNok (I 127) (I 115 20) lo hi sg p) ∧ (p ≤ I' 115 21 ∧ I' 115 21 ≤ p + 3) ∧ (∀ j : Int, j ≠ 21 → j ≠ 22 → I' 115 j = I 115 j) ∧ ∀ b : Nat, b ≠ 115 → I' b = I b) ∧ R' = R)) := by
    intro f
    induction f with
    | zero =>
      intro J k v k0 kf h21 h22 hd hv hv2 hv1 f1 f2
      have e127 : J 127 = I 127 := f2 127 (by decide)
      have e20 : J 115 20 = I 115 20 := f1 20 (by decide) (by decide)
      refine wp_canon (fun hI0 => ?_)
      refine wp_aload_n (t := 6) rfl rfl ?_
      refine wp_vi (ci := 10) (c_X10_letter (d := d) hW hn (by rw [e20]; exact hlen) (by omega)) (t := 7) rfl kX10_140 rfl rfl (by omega) (by first | rfl | assumption) ⟨_, _, rfl⟩ (Nat.le_of_ble_eq_true rfl) ⟨Nat.le_refl _, Nat.le_refl _⟩ (fun r11 I11 R11 c11 => ?_)
      refine wp_canon (fun hI1 => ?_)
      obtain ⟨⟨e11, b11⟩, zi11, zr11⟩ := c11
      have zi11 := zi11.symm
      subst zi11
      have zr11 := zr11.symm
      subst zr11
      refine wp_i2l (t := 8) rfl (by first | assumption | exact hI1 _ _ | exact hI0 _ _ | exact zin_and _ _ | (unfold zin; omega) | (unfold zin at *; omega)) ?_
      refine wp_ldc2 (48) (t := 9) rfl (wsL_law_r18_l (List.mem_of_getElem? (i := 1) rfl)) (by decide) ?_
      refine wp_ldc2 (57) (t := 10) rfl (wsL_law_r18_l (List.mem_of_getElem? (i := 2) rfl)) (by decide) ?_
      refine wp_si (c_X10_in (d := d) (zin_long b11) (by unfold zinL; omega) (by unfold zinL; omega)) (t := 11) rfl kX10_124 rfl rfl (Nat.le_of_ble_eq_true rfl) ⟨Nat.le_refl _, Nat.le_refl _⟩ (fun r21 I21 R21 c21 => ?_)
      refine wp_canon (fun hI2 => ?_)
      obtain ⟨e21, zi21, zr21⟩ := c21
      have zi21 := zi21.symm
      subst zi21
      have zr21 := zr21.symm
      subst zr21
      have b21 : 0 ≤ r21 ∧ r21 ≤ 1 := by rw [e21]; split <;> omega
      have n21 : ¬ r21 = 0 → 48 ≤ r11 ∧ r11 ≤ 57 := fun h => by (rw [e21] at h; by_cases q : 48 ≤ r11 ∧ r11 ≤ 57; exact q; rw [if_neg q] at h; exact absurd rfl h)
      have m21 : r21 = 0 → ¬ (48 ≤ r11 ∧ r11 ≤ 57) := fun h q => by (rw [e21, if_pos q] at h; exact absurd h (by decide))
      refine wp_if_eq (t := 12) (tgt := 69) rfl (by decide) (by first | assumption | exact hI2 _ _ | exact hI1 _ _ | exact hI0 _ _ | exact zin_and _ _ | (unfold zin; omega) | (unfold zin at *; omega)) (fun h24 => ?_) (fun h24 => ?_)
      · exact tail J k v k0 (by omega) h21 h22 hd (fun q => by omega) hv f1 f2
      · refine wp_aload_n (t := 13) rfl rfl ?_
        refine wp_getI (t := 14) (ji := 21) rfl fX10_137 rfl rfl (by omega) (by first | rfl | assumption) ?_
        rw [h21]
        refine wp_iload_n (t := 15) rfl rfl ?_
        refine wp_isub (t := 16) rfl ?_
        refine wp_iconst (t := 17) rfl ?_
        refine wp_icmp_ge (t := 18) (tgt := 69) rfl (by decide) (by first | assumption | exact hI2 _ _ | exact hI1 _ _ | exact hI0 _ _ | exact zin_and _ _ | (unfold zin; omega) | (unfold zin at *; omega)) (by first | assumption | exact hI2 _ _ | exact hI1 _ _ | exact hI0 _ _ | exact zin_and _ _ | (unfold zin; omega) | (unfold zin at *; omega)) (fun h34 => ?_) (fun h34 => ?_)
        · exact tail J k v k0 (by omega) h21 h22 hd (fun q => by omega) hv f1 f2
        · exact absurd h34 (by omega)
    | succ f ih =>
      intro J k v k0 kf h21 h22 hd hv hv2 hv1 f1 f2
      have e127 : J 127 = I 127 := f2 127 (by decide)
      have e20 : J 115 20 = I 115 20 := f1 20 (by decide) (by decide)
      have fk := fb (p + k)
      have eL : mLet J (J 115 21) = mLet I (p + k) := by unfold mLet; rw [e127, e20, h21]
      refine wp_canon (fun hI0 => ?_)
      refine wp_aload_n (t := 6) rfl rfl ?_
      refine wp_vi (ci := 10) (c_X10_letter (d := d) hW hn (by rw [e20]; exact hlen) (by omega)) (t := 7) rfl kX10_140 rfl rfl (by omega) (by first | rfl | assumption) ⟨_, _, rfl⟩ (Nat.le_of_ble_eq_true rfl) ⟨Nat.le_refl _, Nat.le_refl _⟩ (fun r11 I11 R11 c11 => ?_)
      refine wp_canon (fun hI1 => ?_)
      obtain ⟨⟨e11, b11⟩, zi11, zr11⟩ := c11
      have zi11 := zi11.symm
      subst zi11
      have zr11 := zr11.symm
      subst zr11
      rw [eL] at e11
      refine wp_i2l (t := 8) rfl (by first | assumption | exact hI1 _ _ | exact hI0 _ _ | exact zin_and _ _ | (unfold zin; omega) | (unfold zin at *; omega)) ?_
      refine wp_ldc2 (48) (t := 9) rfl (wsL_law_r18_l (List.mem_of_getElem? (i := 1) rfl)) (by decide) ?_
      refine wp_ldc2 (57) (t := 10) rfl (wsL_law_r18_l (List.mem_of_getElem? (i := 2) rfl)) (by decide) ?_
      refine wp_si (c_X10_in (d := d) (zin_long b11) (by unfold zinL; omega) (by unfold zinL; omega)) (t := 11) rfl kX10_124 rfl rfl (Nat.le_of_ble_eq_true rfl) ⟨Nat.le_refl _, Nat.le_refl _⟩ (fun r21 I21 R21 c21 => ?_)
      refine wp_canon (fun hI2 => ?_)
      obtain ⟨e21, zi21, zr21⟩ := c21
      have zi21 := zi21.symm
      subst zi21
      have zr21 := zr21.symm
      subst zr21
      have b21 : 0 ≤ r21 ∧ r21 ≤ 1 := by rw [e21]; split <;> omega
      have n21 : ¬ r21 = 0 → 48 ≤ r11 ∧ r11 ≤ 57 := fun h => by (rw [e21] at h; by_cases q : 48 ≤ r11 ∧ r11 ≤ 57; exact q; rw [if_neg q] at h; exact absurd rfl h)
      have m21 : r21 = 0 → ¬ (48 ≤ r11 ∧ r11 ≤ 57) := fun h q => by (rw [e21, if_pos q] at h; exact absurd h (by decide))
      refine wp_if_eq (t := 12) (tgt := 69) rfl (by decide) (by first | assumption | exact hI2 _ _ | exact hI1 _ _ | exact hI0 _ _ | exact zin_and _ _ | (unfold zin; omega) | (unfold zin at *; omega)) (fun h24 => ?_) (fun h24 => ?_)
      · exact tail J k v k0 (by omega) h21 h22 hd (fun _ => Classical.byContradiction (fun q => m21 h24 (by rw [e11]; exact (mLet_fig (I := I) (p := p + k) (by omega)).mpr q))) hv f1 f2
      · refine wp_aload_n (t := 13) rfl rfl ?_
        refine wp_getI (t := 14) (ji := 21) rfl fX10_137 rfl rfl (by omega) (by first | rfl | assumption) ?_
        rw [h21]
        refine wp_iload_n (t := 15) rfl rfl ?_
        refine wp_isub (t := 16) rfl ?_
        refine wp_iconst (t := 17) rfl ?_
        refine wp_icmp_ge (t := 18) (tgt := 69) rfl (by decide) (by first | assumption | exact hI2 _ _ | exact hI1 _ _ | exact hI0 _ _ | exact zin_and _ _ | (unfold zin; omega) | (unfold zin at *; omega)) (by first | assumption | exact hI2 _ _ | exact hI1 _ _ | exact hI0 _ _ | exact zin_and _ _ | (unfold zin; omega) | (unfold zin at *; omega)) (fun h34 => ?_) (fun h34 => ?_)
        · exact absurd h34 (by omega)
        · refine wp_aload_n (t := 19) rfl rfl ?_
          refine wp_bipush (t := 20) rfl (by decide) ?_
          refine wp_aload_n (t := 21) rfl rfl ?_
          refine wp_getI (t := 22) (ji := 22) rfl fX10_144 rfl rfl (by omega) (by first | rfl | assumption) ?_
          rw [h22]
          refine wp_imul (t := 23) rfl ?_
          refine wp_aload_n (t := 24) rfl rfl ?_
          refine wp_vi (ci := 10) (c_X10_letter (d := d) hW hn (by rw [e20]; exact hlen) (by omega)) (t := 25) rfl kX10_140 rfl rfl (by omega) (by first | rfl | assumption) ⟨_, _, rfl⟩ (Nat.le_of_ble_eq_true rfl) ⟨Nat.le_refl _, Nat.le_refl _⟩ (fun r46 I46 R46 c46 => ?_)
          refine wp_canon (fun hI3 => ?_)
          obtain ⟨⟨e46, b46⟩, zi46, zr46⟩ := c46
          have zi46 := zi46.symm
          subst zi46
          have zr46 := zr46.symm
          subst zr46
          rw [eL] at e46
          have nn := n21 h24
          have lv := mLet_val (I := I) (p := p + k) (by omega) (by rw [← e11]; exact nn)
          refine wp_iadd (t := 26) rfl ?_
          refine wp_bipush (t := 27) rfl (by decide) ?_
          refine wp_isub (t := 28) rfl ?_
          refine wp_putI (t := 29) (ji := 22) rfl fX10_144 p10_22 rfl rfl (by omega) (by first | rfl | assumption) (by first | assumption | exact hI3 _ _ | exact hI2 _ _ | exact hI1 _ _ | exact hI0 _ _ | exact zin_and _ _ | (unfold zin; omega) | (unfold zin at *; omega)) ?_
          refine wp_canon (fun hI4 => ?_)
          refine wp_aload_n (t := 30) rfl rfl ?_
          refine wp_dup (t := 31) rfl rfl ?_
          refine wp_getI (t := 32) (ji := 21) rfl fX10_137 rfl rfl (by omega) (by first | rfl | assumption) ?_
          rw [zu_ni (by decide), h21]
          refine wp_iconst (t := 33) rfl ?_
          refine wp_iadd (t := 34) rfl ?_
          refine wp_putI (t := 35) (ji := 21) rfl fX10_137 p10_21 rfl rfl (by omega) (by first | rfl | assumption) (by first | assumption | exact hI4 _ _ | exact hI3 _ _ | exact hI2 _ _ | exact hI1 _ _ | exact hI0 _ _ | exact zin_and _ _ | (unfold zin; omega) | (unfold zin at *; omega)) ?_
          refine wp_canon (fun hI5 => ?_)
          refine wp_goto (t := 36) (tgt := 10) rfl (by decide) ?_
          have v0 : k = 0 → v = 0 := fun q0 => by rcases hd with q | q | q | q <;> omega
          refine ih _ (k + 1) (10 * v + r46 - 48) (by omega) (by omega) (by rw [zu_eq]; omega) (by rw [zu_ni (by decide), zu_eq]) ?_ (by omega) (by omega) (by omega) (fun j j1 j2 => by rw [zu_ni j1, zu_ni j2]; exact f1 j j1 j2) (fun b hb => by rw [zu_ne hb, zu_ne hb]; exact f2 b hb)
          have gg := (mLet_fig (I := I) (p := p + k) (by omega)).mp (by rw [← e11]; exact nn)
          rcases hd with q | q | q | q
          · rw [q.1, Int.add_zero] at gg lv
            exact Or.inr (Or.inl ⟨by omega, gg, by rw [q.1, Int.add_zero] at e46; omega⟩)
          · rw [q.1] at gg lv e46
            exact Or.inr (Or.inr (Or.inl ⟨by omega, q.2.1, gg, by omega⟩))
          · rw [q.1] at gg
            exact Or.inr (Or.inr (Or.inr ⟨by omega, q.2.1, q.2.2.1, gg⟩))
          · omega
  refine wp_ls (ls' := [some (zR 115), some (zI lo), some (zI hi), none]) rfl ?_
  refine wp_aload_n (t := 0) rfl rfl ?_
  refine wp_getI (t := 1) (ji := 21) rfl fX10_137 rfl rfl (by omega) (by first | rfl | assumption) ?_
  rw [hat]
  refine wp_istore_n (t := 2) rfl (by decide) rfl ?_
  refine wp_aload_n (t := 3) rfl rfl ?_
  refine wp_iconst (t := 4) rfl ?_
  refine wp_putI (t := 5) (ji := 22) rfl fX10_144 p10_22 rfl rfl (by omega) (by first | rfl | assumption) (by first | assumption | exact hI0 _ _ | exact zin_and _ _ | (unfold zin; omega) | (unfold zin at *; omega)) ?_
  refine wp_canon (fun hI1 => ?_)
  exact key 3 _ 0 0 (by omega) (by omega) (by rw [zu_ni (by decide), hat]; omega) zu_eq (Or.inl ⟨rfl, rfl⟩) (by omega) (by omega) (by omega) (fun j j1 j2 => zu_ni j2) (fun b hb => zu_ne hb)
set_option maxHeartbeats 4000000 in
set_option maxRecDepth 100000 in
theorem c_X10_takesRow {G : zG} {d n : Nat} {I : zMem} {R : zRef} {c p : Int} (hW : zWir n R) (hn : 143 ≤ n) (hlen : 0 ≤ I 115 20 ∧ I 115 20 ≤ 200) (hat : I 115 21 = p) (hp : 0 ≤ p ∧ p ≤ 1000) (hc : 0 ≤ c ∧ c < 6) : MT G mX10_takesRow (d + 1) 0 0 [zR 115, zI c] n I R (zP1 (fun r I' R' => (r = (if 0 < pRun (I 127) (I 115 20) p 6 then 1 else 0) ∧ I' 115 21 = p + pRun (I 127) (I 115 20) p 6 ∧ I' 131 c = pRun (I 127) (I 115 20) p 6 ∧ (∀ j : Int, j ≠ c → I' 131 j = I 131 j) ∧ (∀ i : Int, 0 ≤ i → i < pRun (I 127) (I 115 20) p 6 → I' 132 (6 * c + i) = I 127 (p + i) - 48) ∧ (∀ j : Int, (j < 6 * c ∨ 6 * c + 6 ≤ j) → I' 132 j = I 132 j) ∧ (∀ j : Int, j ≠ 21 → I' 115 j = I 115 j) ∧ ∀ b : Nat, b ≠ 115 → b ≠ 131 → b ≠ 132 → I' b = I b) ∧ R' = R)) := by
  refine MT.of (by decide +kernel) tX10_takesRow_ok (Nat.le_of_ble_eq_true rfl) (fun hI0 => ?_)
  have rb := pRun_b (I 127) (I 115 20) p 6
  have tail : ∀ (J : zMem) (m : Int), pRun (I 127) (I 115 20) p 6 = m → J 115 21 = p + m → (∀ i : Int, 0 ≤ i → i < m → J 132 (6 * c + i) = I 127 (p + i) - 48) → (∀ j : Int, (j < 6 * c ∨ 6 * c + 6 ≤ j) → J 132 j = I 132 j) → (∀ j : Int, j ≠ 21 → J 115 j = I 115 j) → (∀ b : Nat, b ≠ 115 → b ≠ 132 → J b = I b) →
      WP G mX10_takesRow (d + 1) 0 0 0 0 59 [some (zR 115), some (zI c), some (zI m)] [] n J R (zP1 (fun r I' R' => (r = (if 0 < pRun (I 127) (I 115 20) p 6 then 1 else 0) ∧ I' 115 21 = p + pRun (I 127) (I 115 20) p 6 ∧ I' 131 c = pRun (I 127) (I 115 20) p 6 ∧ (∀ j : Int, j ≠ c → I' 131 j = I 131 j) ∧ (∀ i : Int, 0 ≤ i → i < pRun (I 127) (I 115 20) p 6 → I' 132 (6 * c + i) = I 127 (p + i) - 48) ∧ (∀ j : Int, (j < 6 * c ∨ 6 * c + 6 ≤ j) → I' 132 j = I 132 j) ∧ (∀ j : Int, j ≠ 21 → I' 115 j = I 115 j) ∧ ∀ b : Nat, b ≠ 115 → b ≠ 131 → b ≠ 132 → I' b = I b) ∧ R' = R)) := by
    intro J m hm h1 h2 h3 h4 h5
    rw [hm] at rb ⊢
    have e131 : J 131 = I 131 := h5 131 (by decide) (by decide)
    refine wp_canon (fun hI0 => ?_)
    refine wp_aload_n (t := 32) rfl rfl ?_
    refine wp_getR (t := 33) (ji := 30) rfl fX10_55 rfl rfl (by omega) (by first | rfl | assumption) (by first | exact hW _ _ _ (by omega) rfl | assumption) ?_
    refine wp_iload_n (t := 34) rfl rfl ?_
    refine wp_iload_n (t := 35) rfl rfl ?_
    refine wp_iastore (t := 36) rfl (by omega) (by first | rfl | assumption) (by omega) (by omega) (by omega) (by first | assumption | exact hI0 _ _ | exact zin_and _ _ | (unfold zin; omega) | (unfold zin at *; omega)) ?_
    refine wp_canon (fun hI1 => ?_)
    refine wp_iload_n (t := 37) rfl rfl ?_
    refine wp_if_le (t := 38) (tgt := 74) rfl (by decide) (by first | assumption | exact hI1 _ _ | exact hI0 _ _ | exact zin_and _ _ | (unfold zin; omega) | (unfold zin at *; omega)) (fun h67 => ?_) (fun h67 => ?_)
    · refine wp_iconst (t := 41) rfl ?_
      refine wp_zreturn (t := 42) rfl rfl (by omega) ?_
      refine ⟨_, rfl, ⟨by first | rw [if_pos (by omega)] | rw [if_neg (by omega)], ?_, zu_eq, fun j hj => ?_, fun i i0 i1 => ?_, fun j hj => ?_, fun j hj => ?_, fun b b1 b2 b3 => ?_⟩, rfl⟩
      · rw [zu_ne (by decide)]; exact h1
      · rw [zu_ni hj, e131]
      · rw [zu_ne (by decide)]; exact h2 i i0 i1
      · rw [zu_ne (by decide)]; exact h3 j hj
      · rw [zu_ne (by decide)]; exact h4 j hj
      · rw [zu_ne b2]; exact h5 b b1 b3
    · refine wp_iconst (t := 39) rfl ?_
      refine wp_goto (t := 40) (tgt := 75) rfl (by decide) ?_
      refine wp_zreturn (t := 42) rfl rfl (by omega) ?_
      refine ⟨_, rfl, ⟨by first | rw [if_pos (by omega)] | rw [if_neg (by omega)], ?_, zu_eq, fun j hj => ?_, fun i i0 i1 => ?_, fun j hj => ?_, fun j hj => ?_, fun b b1 b2 b3 => ?_⟩, rfl⟩
      · rw [zu_ne (by decide)]; exact h1
      · rw [zu_ni hj, e131]
      · rw [zu_ne (by decide)]; exact h2 i i0 i1
      · rw [zu_ne (by decide)]; exact h3 j hj
      · rw [zu_ne (by decide)]; exact h4 j hj
      · rw [zu_ne b2]; exact h5 b b1 b3
  have key : ∀ (f : Nat) (i : Int) (J : zMem), 0 ≤ i → i + f = 6 → J 115 21 = p + i → (∀ j : Int, 0 ≤ j → j < i → 0 < pFig (I 127) (I 115 20) (p + j) ∧ J 132 (6 * c + j) = I 127 (p + j) - 48) → (∀ j : Int, (j < 6 * c ∨ 6 * c + 6 ≤ j) → J 132 j = I 132 j) → (∀ j : Int, j ≠ 21 → J 115 j = I 115 j) → (∀ b : Nat, b ≠ 115 → b ≠ 132 → J b = I b) →
      WP G mX10_takesRow (d + 1) 0 0 0 0 2 [some (zR 115), some (zI c), some (zI i)] [] n J R (zP1 (fun r I' R' => (r = (if 0 < pRun (I 127) (I 115 20) p 6 then 1 else 0) ∧ I' 115 21 = p + pRun (I 127) (I 115 20) p 6 ∧ I' 131 c = pRun (I 127) (I 115 20) p 6 ∧ (∀ j : Int, j ≠ c → I' 131 j = I 131 j) ∧ (∀ i : Int, 0 ≤ i → i < pRun (I 127) (I 115 20) p 6 → I' 132 (6 * c + i) = I 127 (p + i) - 48) ∧ (∀ j : Int, (j < 6 * c ∨ 6 * c + 6 ≤ j) → I' 132 j = I 132 j) ∧ (∀ j : Int, j ≠ 21 → I' 115 j = I 115 j) ∧ ∀ b : Nat, b ≠ 115 → b ≠ 131 → b ≠ 132 → I' b = I b) ∧ R' = R)) := by
    intro f
    induction f with
    | zero =>
      intro i J i0 hf h1 h2 h3 h4 h5
      have e20 : J 115 20 = I 115 20 := h4 20 (by decide)
      refine wp_canon (fun hI0 => ?_)
      refine wp_aload_n (t := 2) rfl rfl ?_
      refine wp_vi (ci := 10) (c_X10_letter (d := d) hW hn (by rw [e20]; exact hlen) (by omega)) (t := 3) rfl kX10_140 rfl rfl (by omega) (by first | rfl | assumption) ⟨_, _, rfl⟩ (Nat.le_of_ble_eq_true rfl) ⟨Nat.le_refl _, Nat.le_refl _⟩ (fun r3 I3 R3 c3 => ?_)
      refine wp_canon (fun hI1 => ?_)
      obtain ⟨⟨e3, b3⟩, zi3, zr3⟩ := c3
      have zi3 := zi3.symm
      subst zi3
      have zr3 := zr3.symm
      subst zr3
      refine wp_i2l (t := 4) rfl (by first | assumption | exact hI1 _ _ | exact hI0 _ _ | exact zin_and _ _ | (unfold zin; omega) | (unfold zin at *; omega)) ?_
      refine wp_ldc2 (49) (t := 5) rfl (wsL_law_r18_l (List.mem_of_getElem? (i := 16) rfl)) (by decide) ?_
      refine wp_ldc2 (57) (t := 6) rfl (wsL_law_r18_l (List.mem_of_getElem? (i := 2) rfl)) (by decide) ?_
      refine wp_si (c_X10_in (d := d) (zin_long b3) (by unfold zinL; omega) (by unfold zinL; omega)) (t := 7) rfl kX10_124 rfl rfl (Nat.le_of_ble_eq_true rfl) ⟨Nat.le_refl _, Nat.le_refl _⟩ (fun r13 I13 R13 c13 => ?_)
      refine wp_canon (fun hI2 => ?_)
      obtain ⟨e13, zi13, zr13⟩ := c13
      have zi13 := zi13.symm
      subst zi13
      have zr13 := zr13.symm
      subst zr13
      have b13 : 0 ≤ r13 ∧ r13 ≤ 1 := by rw [e13]; split <;> omega
      have n13 : ¬ r13 = 0 → 49 ≤ r3 ∧ r3 ≤ 57 := fun h => by (rw [e13] at h; by_cases q : 49 ≤ r3 ∧ r3 ≤ 57; exact q; rw [if_neg q] at h; exact absurd rfl h)
      have m13 : r13 = 0 → ¬ (49 ≤ r3 ∧ r3 ≤ 57) := fun h q => by (rw [e13, if_pos q] at h; exact absurd h (by decide))
      refine wp_if_eq (t := 8) (tgt := 59) rfl (by decide) (by first | assumption | exact hI2 _ _ | exact hI1 _ _ | exact hI0 _ _ | exact zin_and _ _ | (unfold zin; omega) | (unfold zin at *; omega)) (fun h16 => ?_) (fun h16 => ?_)
      · exact tail J i (pRun_eq 6 i0 (by omega) (fun j j0 j1 => (h2 j j0 j1).1) (fun q => absurd q (by omega))) h1 (fun j j0 j1 => (h2 j j0 j1).2) h3 h4 h5
      · refine wp_iload_n (t := 9) rfl rfl ?_
        refine wp_bipush (t := 10) rfl (by decide) ?_
        refine wp_icmp_ge (t := 11) (tgt := 59) rfl (by decide) (by first | assumption | exact hI2 _ _ | exact hI1 _ _ | exact hI0 _ _ | exact zin_and _ _ | (unfold zin; omega) | (unfold zin at *; omega)) (by first | assumption | exact hI2 _ _ | exact hI1 _ _ | exact hI0 _ _ | exact zin_and _ _ | (unfold zin; omega) | (unfold zin at *; omega)) (fun h22 => ?_) (fun h22 => ?_)
        · exact tail J i (pRun_eq 6 i0 (by omega) (fun j j0 j1 => (h2 j j0 j1).1) (fun q => absurd q (by omega))) h1 (fun j j0 j1 => (h2 j j0 j1).2) h3 h4 h5
        · exact absurd h22 (by omega)
    | succ f ih =>
      intro i J i0 hf h1 h2 h3 h4 h5
      have e127 : J 127 = I 127 := h5 127 (by decide) (by decide)
      have e20 : J 115 20 = I 115 20 := h4 20 (by decide)
      have fk := pFig_b (I 127) (I 115 20) (p + i)
      have eL : mLet J (J 115 21) = mLet I (p + i) := by unfold mLet; rw [e127, e20, h1]
      have lf := mLet_fig (I := I) (p := p + i) (by omega)
      refine wp_canon (fun hI0 => ?_)
      refine wp_aload_n (t := 2) rfl rfl ?_
      refine wp_vi (ci := 10) (c_X10_letter (d := d) hW hn (by rw [e20]; exact hlen) (by omega)) (t := 3) rfl kX10_140 rfl rfl (by omega) (by first | rfl | assumption) ⟨_, _, rfl⟩ (Nat.le_of_ble_eq_true rfl) ⟨Nat.le_refl _, Nat.le_refl _⟩ (fun r3 I3 R3 c3 => ?_)
      refine wp_canon (fun hI1 => ?_)
      obtain ⟨⟨e3, b3⟩, zi3, zr3⟩ := c3
      have zi3 := zi3.symm
      subst zi3
      have zr3 := zr3.symm
      subst zr3
      rw [eL] at e3
      refine wp_i2l (t := 4) rfl (by first | assumption | exact hI1 _ _ | exact hI0 _ _ | exact zin_and _ _ | (unfold zin; omega) | (unfold zin at *; omega)) ?_
      refine wp_ldc2 (49) (t := 5) rfl (wsL_law_r18_l (List.mem_of_getElem? (i := 16) rfl)) (by decide) ?_
      refine wp_ldc2 (57) (t := 6) rfl (wsL_law_r18_l (List.mem_of_getElem? (i := 2) rfl)) (by decide) ?_
      refine wp_si (c_X10_in (d := d) (zin_long b3) (by unfold zinL; omega) (by unfold zinL; omega)) (t := 7) rfl kX10_124 rfl rfl (Nat.le_of_ble_eq_true rfl) ⟨Nat.le_refl _, Nat.le_refl _⟩ (fun r13 I13 R13 c13 => ?_)
      refine wp_canon (fun hI2 => ?_)
      obtain ⟨e13, zi13, zr13⟩ := c13
      have zi13 := zi13.symm
      subst zi13
      have zr13 := zr13.symm
      subst zr13
      have b13 : 0 ≤ r13 ∧ r13 ≤ 1 := by rw [e13]; split <;> omega
      have n13 : ¬ r13 = 0 → 49 ≤ r3 ∧ r3 ≤ 57 := fun h => by (rw [e13] at h; by_cases q : 49 ≤ r3 ∧ r3 ≤ 57; exact q; rw [if_neg q] at h; exact absurd rfl h)
      have m13 : r13 = 0 → ¬ (49 ≤ r3 ∧ r3 ≤ 57) := fun h q => by (rw [e13, if_pos q] at h; exact absurd h (by decide))
      refine wp_if_eq (t := 8) (tgt := 59) rfl (by decide) (by first | assumption | exact hI2 _ _ | exact hI1 _ _ | exact hI0 _ _ | exact zin_and _ _ | (unfold zin; omega) | (unfold zin at *; omega)) (fun h16 => ?_) (fun h16 => ?_)
      · refine tail J i (pRun_eq 6 i0 (by omega) (fun j j0 j1 => (h2 j j0 j1).1) (fun q q2 => ?_)) h1 (fun j j0 j1 => (h2 j j0 j1).2) h3 h4 h5
        have g := lf.mpr (by omega)
        have g2 := mLet_val (I := I) (p := p + i) (by omega) g
        exact m13 h16 (by omega)
      · refine wp_iload_n (t := 9) rfl rfl ?_
        refine wp_bipush (t := 10) rfl (by decide) ?_
        refine wp_icmp_ge (t := 11) (tgt := 59) rfl (by decide) (by first | assumption | exact hI2 _ _ | exact hI1 _ _ | exact hI0 _ _ | exact zin_and _ _ | (unfold zin; omega) | (unfold zin at *; omega)) (by first | assumption | exact hI2 _ _ | exact hI1 _ _ | exact hI0 _ _ | exact zin_and _ _ | (unfold zin; omega) | (unfold zin at *; omega)) (fun h22 => ?_) (fun h22 => ?_)
        · exact absurd h22 (by omega)
        · refine wp_aload_n (t := 12) rfl rfl ?_
          refine wp_getR (t := 13) (ji := 31) rfl fX10_58 rfl rfl (by omega) (by first | rfl | assumption) (by first | exact hW _ _ _ (by omega) rfl | assumption) ?_
          refine wp_bipush (t := 14) rfl (by decide) ?_
          refine wp_iload_n (t := 15) rfl rfl ?_
          refine wp_imul (t := 16) rfl ?_
          refine wp_iload_n (t := 17) rfl rfl ?_
          refine wp_iadd (t := 18) rfl ?_
          refine wp_aload_n (t := 19) rfl rfl ?_
          refine wp_vi (ci := 10) (c_X10_letter (d := d) hW hn (by rw [e20]; exact hlen) (by omega)) (t := 20) rfl kX10_140 rfl rfl (by omega) (by first | rfl | assumption) ⟨_, _, rfl⟩ (Nat.le_of_ble_eq_true rfl) ⟨Nat.le_refl _, Nat.le_refl _⟩ (fun r36 I36 R36 c36 => ?_)
          refine wp_canon (fun hI3 => ?_)
          obtain ⟨⟨e36, b36⟩, zi36, zr36⟩ := c36
          have zi36 := zi36.symm
          subst zi36
          have zr36 := zr36.symm
          subst zr36
          rw [eL] at e36
          have nn := n13 h16
          have lv := mLet_val (I := I) (p := p + i) (by omega) (by omega)
          refine wp_bipush (t := 21) rfl (by decide) ?_
          refine wp_isub (t := 22) rfl ?_
          refine wp_iastore (t := 23) rfl (by omega) (by first | rfl | assumption) (by omega) (by omega) (by omega) (by first | assumption | exact hI3 _ _ | exact hI2 _ _ | exact hI1 _ _ | exact hI0 _ _ | exact zin_and _ _ | (unfold zin; omega) | (unfold zin at *; omega)) ?_
          refine wp_canon (fun hI4 => ?_)
          refine wp_iinc (t := 24) rfl rfl (by decide) rfl ?_
          refine wp_aload_n (t := 25) rfl rfl ?_
          refine wp_dup (t := 26) rfl rfl ?_
          refine wp_getI (t := 27) (ji := 21) rfl fX10_137 rfl rfl (by omega) (by first | rfl | assumption) ?_
          rw [zu_ne (by decide), h1]
          refine wp_iconst (t := 28) rfl ?_
          refine wp_iadd (t := 29) rfl ?_
          refine wp_putI (t := 30) (ji := 21) rfl fX10_137 p10_21 rfl rfl (by omega) (by first | rfl | assumption) (by first | assumption | exact hI4 _ _ | exact hI3 _ _ | exact hI2 _ _ | exact hI1 _ _ | exact hI0 _ _ | exact zin_and _ _ | (unfold zin; omega) | (unfold zin at *; omega)) ?_
          refine wp_canon (fun hI5 => ?_)
          refine wp_goto (t := 31) (tgt := 2) rfl (by decide) ?_
          refine ih (i + 1) _ (by omega) (by omega) (by rw [zu_eq]; omega) (fun j j0 j1 => ?_) (fun j hj => by rw [zu_ne (by decide), zu_ni (by omega)]; exact h3 j hj) (fun j hj => by rw [zu_ni hj, zu_ne (by decide)]; exact h4 j hj) (fun b b1 b2 => by rw [zu_ne b1, zu_ne b2]; exact h5 b b1 b2)
          rw [zu_ne (by decide)]
          by_cases e : j = i
          · rw [e, zu_eq]
            omega
          · rw [zu_ni (by omega)]
            exact h2 j j0 (by omega)
  refine wp_ls (ls' := [some (zR 115), some (zI c), none]) rfl ?_
  refine wp_iconst (t := 0) rfl ?_
  refine wp_istore_n (t := 1) rfl (by decide) rfl ?_
  exact key 6 0 I (by omega) (by omega) (by omega) (fun j j0 j1 => absurd j1 (by omega)) (fun _ _ => rfl) (fun _ _ => rfl) (fun _ _ _ => rfl)
