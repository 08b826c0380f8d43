/-! the reference: by an order, the best of all -/
/-- nothing put -/
def zClr (S : zS) : zS := (S.1, S.2.1, S.2.2.1, S.2.2.2.1, (fun _ => 0), (fun _ => 0), (fun _ => 0))
/-- put by an order, k of it: the plan, and 1 while all could be put -/
def gRun (S : zS) (o : Int → Int) : Nat → zS × Int
  | 0 => (S, 1)
  | k + 1 => if (gRun S o k).2 = 0 then gRun S o k else if (sFl (gRun S o k).1 (o k) 2000000 (sL S).toNat).1 = 0 then ((gRun S o k).1, 0)
    else (sPut (gRun S o k).1 (o k) (sFl (gRun S o k).1 (o k) 2000000 (sL S).toNat).1 (sFl (gRun S o k).1 (o k) 2000000 (sL S).toNat).2.1, 1)
theorem gRun_succ (S : zS) (o : Int → Int) {k : Int} (h : 0 ≤ k) : gRun S o (k + 1).toNat = if (gRun S o k.toNat).2 = 0 then gRun S o k.toNat else if (sFl (gRun S o k.toNat).1 (o k) 2000000 (sL S).toNat).1 = 0 then ((gRun S o k.toNat).1, 0)
    else (sPut (gRun S o k.toNat).1 (o k) (sFl (gRun S o k.toNat).1 (o k) 2000000 (sL S).toNat).1 (sFl (gRun S o k.toNat).1 (o k) 2000000 (sL S).toNat).2.1, 1) := by
  rw [show (k + 1).toNat = k.toNat + 1 by omega]
  have e : ((k.toNat : Nat) : Int) = k := Int.toNat_of_nonneg h
  show (if (gRun S o k.toNat).2 = 0 then gRun S o k.toNat else if (sFl (gRun S o k.toNat).1 (o (k.toNat : Int)) 2000000 (sL S).toNat).1 = 0 then ((gRun S o k.toNat).1, 0)
    else (sPut (gRun S o k.toNat).1 (o (k.toNat : Int)) (sFl (gRun S o k.toNat).1 (o (k.toNat : Int)) 2000000 (sL S).toNat).1 (sFl (gRun S o k.toNat).1 (o (k.toNat : Int)) 2000000 (sL S).toNat).2.1, 1)) = _
  rw [e]
theorem gRun_S1 (S : zS) (o : Int → Int) : ∀ k : Nat, (gRun S o k).1.1 = S.1 ∧ ((gRun S o k).2 = 0 ∨ (gRun S o k).2 = 1) := by
  intro k
  induction k with
  | zero => exact ⟨rfl, Or.inr rfl⟩
  | succ k ih =>
    show (if (gRun S o k).2 = 0 then gRun S o k else if (sFl (gRun S o k).1 (o k) 2000000 (sL S).toNat).1 = 0 then ((gRun S o k).1, (0 : Int)) else (sPut (gRun S o k).1 (o k) (sFl (gRun S o k).1 (o k) 2000000 (sL S).toNat).1 (sFl (gRun S o k).1 (o k) 2000000 (sL S).toNat).2.1, (1 : Int))).1.1 = S.1 ∧ _
    have e : gRun S o (k + 1) = if (gRun S o k).2 = 0 then gRun S o k else if (sFl (gRun S o k).1 (o k) 2000000 (sL S).toNat).1 = 0 then ((gRun S o k).1, (0 : Int)) else (sPut (gRun S o k).1 (o k) (sFl (gRun S o k).1 (o k) 2000000 (sL S).toNat).1 (sFl (gRun S o k).1 (o k) 2000000 (sL S).toNat).2.1, (1 : Int)) := rfl
    rw [e]
    split
    · exact ih
    · split
      · exact ⟨ih.1, Or.inl rfl⟩
      · exact ⟨ih.1, Or.inr rfl⟩
theorem gRun_gd {S : zS} {o : Int → Int} (h : zGd S) (ho : ∀ k : Int, 0 ≤ k → k < sN S → 0 ≤ o k ∧ o k < sN S) : ∀ k : Nat, (k : Int) ≤ sN S → zGd (gRun S o k).1 := by
  intro k
  induction k with
  | zero => exact fun _ => h
  | succ k ih =>
    intro hk
    have i := ih (by omega)
    have k1 := (gRun_S1 S o k).1
    have kN : sN (gRun S o k).1 = sN S := by unfold sN; rw [k1]
    have kL : sL (gRun S o k).1 = sL S := by unfold sL; rw [k1]
    have ok := ho k (by omega) (by omega)
    have e : gRun S o (k + 1) = if (gRun S o k).2 = 0 then gRun S o k else if (sFl (gRun S o k).1 (o k) 2000000 (sL S).toNat).1 = 0 then ((gRun S o k).1, (0 : Int)) else (sPut (gRun S o k).1 (o k) (sFl (gRun S o k).1 (o k) 2000000 (sL S).toNat).1 (sFl (gRun S o k).1 (o k) 2000000 (sL S).toNat).2.1, (1 : Int)) := rfl
    rw [e]
    split
    · exact i
    · split
      · exact i
      · rename_i q
        rw [← kL] at q ⊢
        exact sFl_gd i ok.1 (by omega) q
/-- what is put has been told by the order -/
theorem gRun_in {S : zS} {o : Int → Int} (h0 : ∀ c : Int, sW S c = 0) : ∀ (k : Nat) (c : Int), ¬ sW (gRun S o k).1 c = 0 → ∃ j : Int, 0 ≤ j ∧ j < k ∧ o j = c := by
  intro k
  induction k with
  | zero => exact fun c h => absurd (h0 c) h
  | succ k ih =>
    intro c h
    have e : gRun S o (k + 1) = if (gRun S o k).2 = 0 then gRun S o k else if (sFl (gRun S o k).1 (o k) 2000000 (sL S).toNat).1 = 0 then ((gRun S o k).1, (0 : Int)) else (sPut (gRun S o k).1 (o k) (sFl (gRun S o k).1 (o k) 2000000 (sL S).toNat).1 (sFl (gRun S o k).1 (o k) 2000000 (sL S).toNat).2.1, (1 : Int)) := rfl
    rw [e] at h
    split at h
    · obtain ⟨j, j0, j1, j2⟩ := ih c h
      exact ⟨j, j0, by omega, j2⟩
    · split at h
      · obtain ⟨j, j0, j1, j2⟩ := ih c h
        exact ⟨j, j0, by omega, j2⟩
      · have h : ¬ (if c = o k then (sFl (gRun S o k).1 (o k) 2000000 (sL S).toNat).1 else sW (gRun S o k).1 c) = 0 := h
        by_cases q : c = o k
        · exact ⟨k, by omega, by omega, q.symm⟩
        · rw [if_neg q] at h
          obtain ⟨j, j0, j1, j2⟩ := ih c h
          exact ⟨j, j0, by omega, j2⟩
theorem gRun_ag {S S' : zS} {o o' : Int → Int} (h : zAg S S') (hL : 0 ≤ sL S) (ho : ∀ k : Int, 0 ≤ k → k < sN S → (0 ≤ o k ∧ o k < sN S) ∧ o k = o' k) : ∀ k : Nat, (k : Int) ≤ sN S → zAg (gRun S o k).1 (gRun S' o' k).1 ∧ (gRun S o k).2 = (gRun S' o' k).2 := by
  intro k
  induction k with
  | zero => exact fun _ => ⟨h, rfl⟩
  | succ k ih =>
    intro hk
    obtain ⟨i1, i2⟩ := ih (by omega)
    obtain ⟨ok, oe⟩ := ho k (by omega) (by omega)
    have k1 := (gRun_S1 S o k).1
    have kN : sN (gRun S o k).1 = sN S := by unfold sN; rw [k1]
    have kL : sL (gRun S o k).1 = sL S := by unfold sL; rw [k1]
    have ef : sFl (gRun S o k).1 (o k) 2000000 (sL S).toNat = sFl (gRun S' o' k).1 (o k) 2000000 (sL S).toNat := sFl_ag i1 _ ok.1 (by omega) _ (by omega)
    have sp := (sFl_spec (S := (gRun S o k).1) (c := o k) (y := 2000000) (sL S).toNat).2.2
    have e : gRun S o (k + 1) = if (gRun S o k).2 = 0 then gRun S o k else if (sFl (gRun S o k).1 (o k) 2000000 (sL S).toNat).1 = 0 then ((gRun S o k).1, (0 : Int)) else (sPut (gRun S o k).1 (o k) (sFl (gRun S o k).1 (o k) 2000000 (sL S).toNat).1 (sFl (gRun S o k).1 (o k) 2000000 (sL S).toNat).2.1, (1 : Int)) := rfl
    have e' : gRun S' o' (k + 1) = if (gRun S' o' k).2 = 0 then gRun S' o' k else if (sFl (gRun S' o' k).1 (o' k) 2000000 (sL S').toNat).1 = 0 then ((gRun S' o' k).1, (0 : Int)) else (sPut (gRun S' o' k).1 (o' k) (sFl (gRun S' o' k).1 (o' k) 2000000 (sL S').toNat).1 (sFl (gRun S' o' k).1 (o' k) 2000000 (sL S').toNat).2.1, (1 : Int)) := rfl
    rw [e, e', ← i2, ← h.2.1, ← oe, ← ef]
    by_cases q : (gRun S o k).2 = 0
    · rw [if_pos q, if_pos q]
      exact ⟨i1, i2⟩
    · rw [if_neg q, if_neg q]
      by_cases q2 : (sFl (gRun S o k).1 (o k) 2000000 (sL S).toNat).1 = 0
      · rw [if_pos q2, if_pos q2]
        exact ⟨i1, rfl⟩
      · rw [if_neg q2, if_neg q2]
        refine ⟨sPut_ag i1 _ ok.1 (by omega) ?_ ?_, rfl⟩
        · rcases sp with r | r
          · exact absurd r.1 q2
          · exact r.1
        · rcases sp with r | r
          · exact absurd r.1 q2
          · omega
/-- how long it is by an order; -4 -/
def gLen (S : zS) (o : Int → Int) : Int := if (gRun S o (sN S).toNat).2 = 0 then -4 else sLen (gRun S o (sN S).toNat).1 (sN S).toNat
theorem gLen_ag {S S' : zS} {o o' : Int → Int} (h : zAg S S') (hL : 0 ≤ sL S) (hN : 0 ≤ sN S) (ho : ∀ k : Int, 0 ≤ k → k < sN S → (0 ≤ o k ∧ o k < sN S) ∧ o k = o' k) : gLen S o = gLen S' o' := by
  obtain ⟨h1, h2⟩ := gRun_ag h hL ho (sN S).toNat (by omega)
  have kN : sN (gRun S o (sN S).toNat).1 = sN S := by unfold sN; rw [(gRun_S1 S o _).1]
  unfold gLen
  rw [← h.1, ← h2, sLen_ag h1 (sN S).toNat (by rw [kN]; omega)]
/-- an order of all cores -/
def zPerm (N : Int) (o : Int → Int) : Prop := (∀ k : Int, 0 ≤ k → k < N → 0 ≤ o k ∧ o k < N) ∧ ∀ j k : Int, 0 ≤ j → j < N → 0 ≤ k → k < N → o j = o k → j = k
set_option maxHeartbeats 4000000 in
set_option maxRecDepth 100000 in
theorem c_X10_goOrder {G : zG} {d n : Nat} {I : zMem} {R : zRef} {wo : Int} (hW : zWir n R) (hn : 143 ≤ n) (hch : mCh I) (hwo : zin wo) (hg : zGd (zClr (mS I wo))) (hk : ∀ c : Int, 0 ≤ c → c < I 115 2 → 0 ≤ I 122 c ∧ I 122 c ≤ 3) (hp : zPerm (I 115 2) (I 141)) : MT G mX10_goOrder (d + 6) 0 0 [zR 115, zI wo] n I R (zP1 (fun r I' R' => (r = gLen (zClr (mS I wo)) (I 141) ∧ (r = -4 ∨ (0 ≤ r ∧ r ≤ 1010000)) ∧ (∀ b : Nat, b ≠ 115 → b ≠ 122 → I' b = I b) ∧ (∀ j : Int, j ≠ 38 → I' 115 j = I 115 j) ∧ ∀ j : Int, 0 ≤ j → j < 6 → I' 122 j = I 122 j) ∧ R' = R)) := by
  refine MT.of (by decide +kernel) tX10_goOrder_ok (Nat.le_of_ble_eq_true rfl) (fun hI0 => ?_)
  have hco := hch.1
  have hli := hch.2.1
  have sN0 : sN (zClr (mS I wo)) = I 115 2 := rfl
  have sL0 : sL (zClr (mS I wo)) = I 115 0 := rfl
  have loop : ∀ (m : Nat) (k : Int) (J : zMem), 0 ≤ k → k ≤ I 115 2 → (I 115 2 - k).toNat = m → zAg (mS J wo) (gRun (zClr (mS I wo)) (I 141) k.toNat).1 → (gRun (zClr (mS I wo)) (I 141) k.toNat).2 = 1 → (∀ b : Nat, b ≠ 115 → b ≠ 122 → J b = I b) → (∀ j : Int, j ≠ 38 → J 115 j = I 115 j) → (∀ j : Int, 0 ≤ j → j < 6 → J 122 j = I 122 j) → (∀ c : Int, 0 ≤ c → c < I 115 2 → ¬ 0 < J 122 (6 + c) → J 122 (12 + c) = 0) →
      WP G mX10_goOrder (d + 6) 0 0 0 0 25 [some (zR 115), some (zI wo), some (zI k)] [] n J R (zP1 (fun r I' R' => (r = gLen (zClr (mS I wo)) (I 141) ∧ (r = -4 ∨ (0 ≤ r ∧ r ≤ 1010000)) ∧ (∀ b : Nat, b ≠ 115 → b ≠ 122 → I' b = I b) ∧ (∀ j : Int, j ≠ 38 → I' 115 j = I 115 j) ∧ ∀ j : Int, 0 ≤ j → j < 6 → I' 122 j = I 122 j) ∧ R' = R)) := by
    intro m
    induction m with
    | zero =>
      intro k J k0 k1 km hag hz hf hf2 hf3 hf4
      have e2 : J 115 2 = I 115 2 := hf2 2 (by decide)
      have ek : k = I 115 2 := by omega
      subst ek
      have hgJ : zGd (mS J wo) := zGd_ag (zAg_symm hag) (gRun_gd hg hp.1 _ (by rw [sN0]; omega))
      have hchJ : mCh J := by
        unfold mCh at hch ⊢
        rw [hf2 0 (by decide), hf2 1 (by decide), hf2 2 (by decide), hf2 3 (by decide), hf 116 (by decide) (by decide), hf 117 (by decide) (by decide), hf 118 (by decide) (by decide), hf 119 (by decide) (by decide)]
        exact hch
      have hplJ := mPl_gd hgJ (fun c c0 c1 => ⟨by rw [hf3 c c0 (by omega)]; exact hk c c0 (by omega), hf4 c c0 (by omega)⟩)
      have htkJ : mTk J := fun a w a0 a1 w0 w1 => (hgJ.2.2.2 a a0 a1).2.1 w w0 w1
      refine wp_canon (fun hI0 => ?_)
      refine wp_iload_n (t := 15) rfl rfl ?_
      refine wp_aload_n (t := 16) rfl rfl ?_
      refine wp_getI (t := 17) (ji := 2) rfl fX10_115 rfl rfl (by omega) (by first | rfl | assumption) ?_
      rw [e2]
      refine wp_icmp_ge (t := 18) (tgt := 56) rfl (by decide) (by first | assumption | exact hI0 _ _ | exact zin_and _ _ | (unfold zin; omega) | (unfold zin at *; omega)) (by first | assumption | exact hI0 _ _ | exact zin_and _ _ | (unfold zin; omega) | (unfold zin at *; omega)) (fun h30 => ?_) (fun h30 => ?_)
      · refine wp_aload_n (t := 31) rfl rfl ?_
        refine wp_vi (ci := 10) (c_X10_lengthOf (wo := wo) (d := d + 4) hW hn hchJ hplJ htkJ) (t := 32) rfl kX10_261 rfl rfl (by omega) (by first | rfl | assumption) ⟨_, _, rfl⟩ (Nat.le_of_ble_eq_true rfl) ⟨Nat.le_refl _, Nat.le_refl _⟩ (fun r57 I57 R57 c57 => ?_)
        refine wp_canon (fun hI1 => ?_)
        obtain ⟨e57, b57, zi57, zr57⟩ := c57
        have zi57 := zi57.symm
        subst zi57
        have zr57 := zr57.symm
        subst zr57
        refine wp_ireturn (t := 33) rfl rfl ?_
        refine ⟨_, rfl, ⟨?_, Or.inr b57, hf, hf2, hf3⟩, rfl⟩
        rw [e57, e2]
        unfold gLen
        rw [sN0, if_neg (by omega)]
        exact sLen_ag hag _ (by show ((I 115 2).toNat : Int) ≤ J 115 2; omega)
      · exact absurd h30 (by omega)
    | succ m ih =>
      intro k J k0 k1 km hag hz hf hf2 hf3 hf4
      have e2 : J 115 2 = I 115 2 := hf2 2 (by decide)
      have e0 : J 115 0 = I 115 0 := hf2 0 (by decide)
      have e141 : J 141 = I 141 := hf 141 (by decide) (by decide)
      have hgk := gRun_gd hg hp.1 k.toNat (by rw [sN0]; omega)
      have hgJ : zGd (mS J wo) := zGd_ag (zAg_symm hag) hgk
      have hchJ : mCh J := by
        unfold mCh at hch ⊢
        rw [hf2 0 (by decide), hf2 1 (by decide), hf2 2 (by decide), hf2 3 (by decide), hf 116 (by decide) (by decide), hf 117 (by decide) (by decide), hf 118 (by decide) (by decide), hf 119 (by decide) (by decide)]
        exact hch
      have hplJ := mPl_gd hgJ (fun c c0 c1 => ⟨by rw [hf3 c c0 (by omega)]; exact hk c c0 (by omega), hf4 c c0 (by omega)⟩)
      have htkJ : mTk J := fun a w a0 a1 w0 w1 => (hgJ.2.2.2 a a0 a1).2.1 w w0 w1
      have ok := hp.1 k k0 (by omega)
      have hs := gRun_succ (zClr (mS I wo)) (I 141) k0
      rw [if_neg (by omega), sL0] at hs
      generalize hc : I 141 k = c at *
      have eW : J 122 (6 + c) = sW (gRun (zClr (mS I wo)) (I 141) k.toNat).1 c := (hag.2.2.2 c ok.1 (by show c < J 115 2; omega)).2.2.2.1
      have cput : ¬ 0 < J 122 (6 + c) := fun q => by
        rw [eW] at q
        obtain ⟨j, j0, j1, j2⟩ := gRun_in (S := zClr (mS I wo)) (o := I 141) (fun _ => rfl) k.toNat c (by omega)
        rw [← hc] at j2
        have := hp.2 j k j0 (by omega) k0 (by omega) j2
        omega
      have ef : sFl (mS J wo) c 2000000 (J 115 0).toNat = sFl (gRun (zClr (mS I wo)) (I 141) k.toNat).1 c 2000000 (I 115 0).toNat := by rw [e0]; exact sFl_ag hag _ ok.1 (by show c < J 115 2; omega) _ (by show ((I 115 0).toNat : Int) ≤ J 115 0; omega)
      refine wp_canon (fun hI0 => ?_)
      refine wp_iload_n (t := 15) rfl rfl ?_
      refine wp_aload_n (t := 16) rfl rfl ?_
      refine wp_getI (t := 17) (ji := 2) rfl fX10_115 rfl rfl (by omega) (by first | rfl | assumption) ?_
      rw [e2]
      refine wp_icmp_ge (t := 18) (tgt := 56) rfl (by decide) (by first | assumption | exact hI0 _ _ | exact zin_and _ _ | (unfold zin; omega) | (unfold zin at *; omega)) (by first | assumption | exact hI0 _ _ | exact zin_and _ _ | (unfold zin; omega) | (unfold zin at *; omega)) (fun h30 => ?_) (fun h30 => ?_)
      · exact absurd h30 (by omega)
      · refine wp_aload_n (t := 19) rfl rfl ?_
        refine wp_aload_n (t := 20) rfl rfl ?_
        refine wp_getR (t := 21) (ji := 42) rfl fX10_85 rfl rfl (by omega) (by first | rfl | assumption) (by first | exact hW _ _ _ (by omega) rfl | assumption) ?_
        refine wp_iload_n (t := 22) rfl rfl ?_
        refine wp_iaload (t := 23) rfl (by omega) (by first | rfl | assumption) (by omega) (by omega) (by omega) ?_
        rw [e141, hc]
        refine wp_iload_n (t := 24) rfl rfl ?_
        refine wp_vi (ci := 10) (c_X10_fills (wo := wo) (d := d) hW hn hchJ hplJ htkJ ⟨ok.1, by omega⟩ hwo cput) (t := 25) rfl kX10_274 rfl rfl (by omega) (by first | rfl | assumption) ⟨_, _, rfl⟩ (Nat.le_of_ble_eq_true rfl) ⟨Nat.le_refl _, Nat.le_refl _⟩ (fun r41 I41 R41 c41 => ?_)
        refine wp_canon (fun hI1 => ?_)
        obtain ⟨c41, zr41⟩ := c41
        have zr41 := zr41.symm
        subst zr41
        rw [ef] at c41
        have b41 : 0 ≤ r41 ∧ r41 ≤ 1 := by rcases c41 with q | q <;> omega
        refine wp_if_ne (t := 26) (tgt := 50) rfl (by decide) (by first | assumption | exact hI1 _ _ | exact hI0 _ _ | exact zin_and _ _ | (unfold zin; omega) | (unfold zin at *; omega)) (fun h44 => ?_) (fun h44 => ?_)
        · refine wp_iinc (t := 29) rfl rfl (by decide) rfl ?_
          refine wp_goto (t := 30) (tgt := 25) rfl (by decide) ?_
          have c41 : (sFl (gRun (zClr (mS I wo)) (I 141) k.toNat).1 c 2000000 (I 115 0).toNat).1 ≠ 0 ∧ mSm (mput J c (sFl (gRun (zClr (mS I wo)) (I 141) k.toNat).1 c 2000000 (I 115 0).toNat).1 (sFl (gRun (zClr (mS I wo)) (I 141) k.toNat).1 c 2000000 (I 115 0).toNat).2.1) I41 := by rcases c41 with q | q; omega; exact q.2
          obtain ⟨zq, sm⟩ := c41
          rw [if_neg zq] at hs
          have sp := (sFl_spec (S := (gRun (zClr (mS I wo)) (I 141) k.toNat).1) (c := c) (y := 2000000) (I 115 0).toNat).2.2
          have sp2 : 1 ≤ (sFl (gRun (zClr (mS I wo)) (I 141) k.toNat).1 c 2000000 (I 115 0).toNat).1 ∧ (sFl (gRun (zClr (mS I wo)) (I 141) k.toNat).1 c 2000000 (I 115 0).toNat).1 ≤ I 115 0 := by rcases sp with q | q; exact absurd q.1 zq; omega
          generalize sFl (gRun (zClr (mS I wo)) (I 141) k.toNat).1 c 2000000 (I 115 0).toNat = zz at *
          have e122 : ∀ j : Int, I41 122 j = mput J c zz.1 zz.2.1 122 j := fun j => by rw [sm.1 122 (by decide)]
          refine ih (k + 1) I41 (by omega) (by omega) (by omega) ?_ (by rw [hs]) (fun b b1 b2 => by rw [sm.1 b b1, mput_b b2]; exact hf b b1 b2) (fun j hj => by rw [sm.2 j hj, mput_b (by decide)]; exact hf2 j hj) (fun j j0 j1 => ?_) (fun a a0 a1 => ?_)
          · rw [hs, mSm_S sm]
            exact mput_ag hag ok.1 (by omega) (by omega) sp2.1 (by omega)
          · rw [e122]
            unfold mput
            rw [zu_ni (by omega), zu_ni (by omega)]
            exact hf3 j j0 j1
          · rw [e122, e122]
            unfold mput
            by_cases e : a = c
            · rw [e, zu_ni (by omega), zu_eq]
              intro q
              omega
            · rw [zu_ni (by omega), zu_ni (by omega), zu_ni (by omega), zu_ni (by omega)]
              exact hf4 a a0 a1
        · refine wp_bipush (t := 27) rfl (by decide) ?_
          refine wp_ireturn (t := 28) rfl rfl ?_
          have c41 : (sFl (gRun (zClr (mS I wo)) (I 141) k.toNat).1 c 2000000 (I 115 0).toNat).1 = 0 ∧ mSm J I41 := by rcases c41 with q | q; exact q.2; omega
          obtain ⟨zq, sm⟩ := c41
          rw [if_pos zq] at hs
          have st : ∀ q : Nat, (gRun (zClr (mS I wo)) (I 141) ((k + 1).toNat + q)).2 = 0 := fun q => by
            induction q with
            | zero => exact congrArg Prod.snd hs
            | succ q ihq =>
              have e3 : gRun (zClr (mS I wo)) (I 141) ((k + 1).toNat + (q + 1)) = if (gRun (zClr (mS I wo)) (I 141) ((k + 1).toNat + q)).2 = 0 then gRun (zClr (mS I wo)) (I 141) ((k + 1).toNat + q) else _ := rfl
              rw [e3, if_pos ihq]
              exact ihq
          have st2 := st ((I 115 2).toNat - (k + 1).toNat)
          rw [show (k + 1).toNat + ((I 115 2).toNat - (k + 1).toNat) = (I 115 2).toNat by omega] at st2
          refine ⟨_, rfl, ⟨?_, Or.inl rfl, fun b b1 b2 => by rw [sm.1 b b1]; exact hf b b1 b2, fun j hj => by rw [sm.2 j hj]; exact hf2 j hj, fun j j0 j1 => by rw [sm.1 122 (by decide)]; exact hf3 j j0 j1⟩, rfl⟩
          unfold gLen
          rw [sN0, if_pos st2]
  have clr : ∀ (m : Nat) (k : Int) (J : zMem), 0 ≤ k → k ≤ I 115 2 → (I 115 2 - k).toNat = m → (∀ b : Nat, b ≠ 122 → J b = I b) → (∀ j : Int, 0 ≤ j → j < 6 → J 122 j = I 122 j) → (∀ c : Int, 0 ≤ c → c < k → J 122 (6 + c) = 0 ∧ J 122 (12 + c) = 0) →
      WP G mX10_goOrder (d + 6) 0 0 0 0 2 [some (zR 115), some (zI wo), some (zI k)] [] n J R (zP1 (fun r I' R' => (r = gLen (zClr (mS I wo)) (I 141) ∧ (r = -4 ∨ (0 ≤ r ∧ r ≤ 1010000)) ∧ (∀ b : Nat, b ≠ 115 → b ≠ 122 → I' b = I b) ∧ (∀ j : Int, j ≠ 38 → I' 115 j = I 115 j) ∧ ∀ j : Int, 0 ≤ j → j < 6 → I' 122 j = I 122 j) ∧ R' = R)) := by
    intro m
    induction m with
    | zero =>
      intro k J k0 k1 km hf hf3 hc
      have e115 : J 115 = I 115 := hf 115 (by decide)
      refine wp_canon (fun hI0 => ?_)
      refine wp_iload_n (t := 2) rfl rfl ?_
      refine wp_aload_n (t := 3) rfl rfl ?_
      refine wp_getI (t := 4) (ji := 2) rfl fX10_115 rfl rfl (by omega) (by first | rfl | assumption) ?_
      rw [e115]
      refine wp_icmp_ge (t := 5) (tgt := 23) rfl (by decide) (by first | assumption | exact hI0 _ _ | exact zin_and _ _ | (unfold zin; omega) | (unfold zin at *; omega)) (by first | assumption | exact hI0 _ _ | exact zin_and _ _ | (unfold zin; omega) | (unfold zin at *; omega)) (fun h7 => ?_) (fun h7 => ?_)
      · refine wp_iconst (t := 13) rfl ?_
        refine wp_istore_n (t := 14) rfl (by decide) rfl ?_
        refine loop _ 0 J (by omega) (by omega) rfl ⟨?_, ?_, ?_, fun c c0 c1 => ?_⟩ rfl (fun b _ b2 => hf b b2) (fun j _ => by rw [e115]) hf3 (fun c c0 c1 _ => (hc c c0 (by omega)).2)
        · show J 115 2 = I 115 2
          rw [e115]
        · show J 115 0 = I 115 0
          rw [e115]
        · show J 115 1 = I 115 1
          rw [e115]
        · have c1 : c < J 115 2 := c1
          rw [e115] at c1
          refine ⟨by show J 117 c = I 117 c; rw [hf 117 (by decide)], fun w _ _ => by show J 137 (9 * c + w) = I 137 (9 * c + w); rw [hf 137 (by decide)], fun a _ _ => by show mA J wo a c = mA I wo a c; rw [mA_ext (by rw [e115]) (hf 120 (by decide)) (hf 121 (by decide))], (hc c c0 (by omega)).1, fun q => ?_⟩
          have q : 0 < J 122 (6 + c) := q
          rw [(hc c c0 (by omega)).1] at q
          omega
      · exact absurd h7 (by omega)
    | succ m ih =>
      intro k J k0 k1 km hf hf3 hc
      have e115 : J 115 = I 115 := hf 115 (by decide)
      refine wp_canon (fun hI0 => ?_)
      refine wp_iload_n (t := 2) rfl rfl ?_
      refine wp_aload_n (t := 3) rfl rfl ?_
      refine wp_getI (t := 4) (ji := 2) rfl fX10_115 rfl rfl (by omega) (by first | rfl | assumption) ?_
      rw [e115]
      refine wp_icmp_ge (t := 5) (tgt := 23) rfl (by decide) (by first | assumption | exact hI0 _ _ | exact zin_and _ _ | (unfold zin; omega) | (unfold zin at *; omega)) (by first | assumption | exact hI0 _ _ | exact zin_and _ _ | (unfold zin; omega) | (unfold zin at *; omega)) (fun h7 => ?_) (fun h7 => ?_)
      · exact absurd h7 (by omega)
      · refine wp_aload_n (t := 6) rfl rfl ?_
        refine wp_iload_n (t := 7) rfl rfl ?_
        refine wp_iconst (t := 8) rfl ?_
        refine wp_iconst (t := 9) rfl ?_
        refine wp_vv (ci := 10) (c_X10_putAt (d := d + 5) hW hn ⟨k0, by omega⟩ (by unfold zin; omega) (by unfold zin; omega)) (t := 10) rfl kX10_257 rfl rfl (by omega) (by first | rfl | assumption) ⟨_, _, rfl⟩ (Nat.le_of_ble_eq_true rfl) ⟨Nat.le_refl _, Nat.le_refl _⟩ (fun I14 R14 c14 => ?_)
        refine wp_canon (fun hI1 => ?_)
        obtain ⟨zi14, zr14⟩ := c14
        subst zi14
        have zr14 := zr14.symm
        subst zr14
        refine wp_iinc (t := 11) rfl rfl (by decide) rfl ?_
        refine wp_goto (t := 12) (tgt := 2) rfl (by decide) ?_
        refine ih (k + 1) _ (by omega) (by omega) (by omega) (fun b hb => by rw [zu_ne hb, zu_ne hb]; exact hf b hb) (fun j j0 j1 => by rw [zu_ni (by omega), zu_ni (by omega)]; exact hf3 j j0 j1) (fun c c0 c1 => ?_)
        by_cases e : c = k
        · rw [e, zu_eq, zu_ni (by omega), zu_eq]
          exact ⟨rfl, rfl⟩
        · rw [zu_ni (by omega), zu_ni (by omega), zu_ni (by omega), zu_ni (by omega)]
          exact hc c c0 (by omega)
  refine wp_ls (ls' := [some (zR 115), some (zI wo), none]) rfl ?_
  refine wp_iconst (t := 0) rfl ?_
  refine wp_istore_n (t := 1) rfl (by decide) rfl ?_
  exact clr _ 0 I (by omega) (by omega) rfl (fun _ _ => rfl) (fun _ _ _ => rfl) (fun c c0 c1 => absurd c1 (by omega))
