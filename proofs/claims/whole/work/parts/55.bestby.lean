/-! the reference: the best of all orders -/
def itO (N : Int) : Nat → (Int → Int)
  | 0 => fun k => k
  | q + 1 => nxO N (itO N q)
def bUpd (S : zS) (o : Int → Int) (st : Int × (Int → Int)) : Int × (Int → Int) := if 0 ≤ gLen S o ∧ (st.1 < 0 ∨ gLen S o < st.1) then (gLen S o, o) else st
def bFo (S : zS) (N : Int) : Nat → Int × (Int → Int)
  | 0 => (-4, fun k => k)
  | q + 1 => bUpd S (itO N q) (bFo S N q)
/-- Q is the place of the last order -/
def zLast (N : Int) (Q : Nat) : Prop := (∀ q : Nat, q ≤ Q → zPerm N (itO N q)) ∧ (∀ q : Nat, q < Q → 0 ≤ zNi (itO N q) (N - 1).toNat) ∧ zNi (itO N Q) (N - 1).toNat < 0
theorem zPerm_congr {N : Int} {o o' : Int → Int} (h : ∀ k : Int, 0 ≤ k → k < N → o' k = o k) (hp : zPerm N o) : zPerm N o' := ⟨fun k k0 k1 => by rw [h k k0 k1]; exact hp.1 k k0 k1, fun j k j0 j1 k0 k1 e => hp.2 j k j0 j1 k0 k1 (by rw [h j j0 j1, h k k0 k1] at e; exact e)⟩
theorem zClr_ag {I J : zMem} {wo : Int} (h : ∀ j : Int, 0 ≤ j → j < 4 → J 115 j = I 115 j) (h17 : J 117 = I 117) (h20 : J 120 = I 120) (h21 : J 121 = I 121) (h37 : J 137 = I 137) : zClr (mS J wo) = zClr (mS I wo) := by
  unfold mS zClr
  rw [mA_ext (wo := wo) (h 3 (by decide) (by decide)) h20 h21, h17, h37, h 0 (by decide) (by decide), h 1 (by decide) (by decide), h 2 (by decide) (by decide)]
def mBestP (I : zMem) (wo : Int) (Q : Nat) (r : Int) (I' : zMem) : Prop := ∃ K : zMem, mSt I K ∧ mTaken K ∧ r = (bFo (zClr (mS K wo)) (I 115 2) (Q + 1)).1 ∧ (0 ≤ r → ∀ k : Int, 0 ≤ k → k < I 115 2 → I' 142 k = (bFo (zClr (mS K wo)) (I 115 2) (Q + 1)).2 k) ∧ (r = -4 ∨ (0 ≤ r ∧ r ≤ 1010000)) ∧
  (∀ b : Nat, b ≠ 115 → b ≠ 122 → b ≠ 135 → b ≠ 136 → b ≠ 137 → b ≠ 138 → b ≠ 141 → b ≠ 142 → I' b = I b) ∧ (∀ j : Int, j ≠ 38 → I' 115 j = I 115 j) ∧ ∀ j : Int, 0 ≤ j → j < 18 → I' 122 j = I 122 j
set_option maxHeartbeats 4000000 in
set_option maxRecDepth 100000 in
theorem c_X10_bestBy {G : zG} {d n : Nat} {I : zMem} {R : zRef} {wo : Int} {Q : Nat} (hW : zWir n R) (hn : 143 ≤ n) (hch : mCh I) (hwo : zin wo) (hg : ∀ J, mSt I J → mTaken J → zGd (zClr (mS J wo))) (hk : ∀ c : Int, 0 ≤ c → c < I 115 2 → 0 ≤ I 122 c ∧ I 122 c ≤ 3) (hQ : zLast (I 115 2) Q) : MT G mX10_bestBy (d + 7) 0 0 [zR 115, zI wo] n I R (zP1 (fun r I' R' => mBestP I wo Q r I' ∧ R' = R)) := by
  refine MT.of (by decide +kernel) tX10_bestBy_ok (Nat.le_of_ble_eq_true rfl) (fun hI0 => ?_)
  have hco := hch.1
  have hli := hch.2.1
  obtain ⟨hQ1, hQ2, hQ3⟩ := hQ
  have main : ∀ (K : zMem), mSt I K → mTaken K → (∀ j : Int, 0 ≤ j → j < 18 → K 122 j = I 122 j) → zGd (zClr (mS K wo)) →
      ∀ (m q : Nat), q + m = Q → ∀ (J : zMem) (best : Int) (x3 x4 : Option zV), (∀ k : Int, 0 ≤ k → k < I 115 2 → J 141 k = itO (I 115 2) q k) → best = (bFo (zClr (mS K wo)) (I 115 2) q).1 → (best = -4 ∨ (0 ≤ best ∧ best ≤ 1010000)) → (0 ≤ best → ∀ k : Int, 0 ≤ k → k < I 115 2 → J 142 k = (bFo (zClr (mS K wo)) (I 115 2) q).2 k) →
        (∀ b : Nat, b ≠ 115 → b ≠ 122 → b ≠ 138 → b ≠ 141 → b ≠ 142 → J b = K b) → (∀ j : Int, j ≠ 38 → J 115 j = I 115 j) → (∀ j : Int, 0 ≤ j → j < 6 → J 122 j = I 122 j) → (∀ j : Int, 0 ≤ j → j < 18 → J 138 j = I 122 j) →
        WP G mX10_bestBy (d + 7) 0 0 0 0 35 [some (zR 115), some (zI wo), some (zI best), x3, x4] [] n J R (zP1 (fun r I' R' => mBestP I wo Q r I' ∧ R' = R)) := by
    intro K hK ht hK22 hgK m
    have k115 : K 115 = I 115 := hK 115 (by decide) (by decide) (by decide)
    induction m with
    | zero =>
      intro q hq J best x3 x4 h1 h2 h2b h3 h4 h5 h6 h7
      have eq : q = Q := by omega
      subst eq
      have e2 : J 115 2 = I 115 2 := h5 2 (by decide)
      have hp := hQ1 q (by omega)
      have hpJ : zPerm (J 115 2) (J 141) := by rw [e2]; exact zPerm_congr h1 hp
      have hS : zClr (mS J wo) = zClr (mS K wo) := zClr_ag (fun j j0 j1 => by rw [h5 j (by omega), k115]) (h4 117 (by decide) (by decide) (by decide) (by decide) (by decide)) (h4 120 (by decide) (by decide) (by decide) (by decide) (by decide)) (h4 121 (by decide) (by decide) (by decide) (by decide) (by decide)) (h4 137 (by decide) (by decide) (by decide) (by decide) (by decide))
      have fK : ∀ b : Nat, b ≠ 115 → b ≠ 122 → b ≠ 135 → b ≠ 136 → b ≠ 137 → b ≠ 138 → b ≠ 141 → b ≠ 142 → J b = I b := fun b b1 b2 b3 b4 b5 b6 b7 b8 => by rw [h4 b b1 b2 b6 b7 b8, hK b b3 b4 b5]
      have hchJ : mCh J := by
        unfold mCh at hch ⊢
        rw [h5 0 (by decide), h5 1 (by decide), h5 2 (by decide), h5 3 (by decide), fK 116 (by decide) (by decide) (by decide) (by decide) (by decide) (by decide) (by decide) (by decide), fK 117 (by decide) (by decide) (by decide) (by decide) (by decide) (by decide) (by decide) (by decide), fK 118 (by decide) (by decide) (by decide) (by decide) (by decide) (by decide) (by decide) (by decide), fK 119 (by decide) (by decide) (by decide) (by decide) (by decide) (by decide) (by decide) (by decide)]
        exact hch
      have hlen : gLen (zClr (mS J wo)) (J 141) = gLen (zClr (mS K wo)) (itO (I 115 2) q) := by
        rw [hS]
        exact gLen_ag (zAg_refl _) (by show 0 ≤ K 115 0; rw [k115]; omega) (by show 0 ≤ K 115 2; rw [k115]; omega) (fun k k0 k1 => by
          have k1 : k < K 115 2 := k1
          rw [k115] at k1
          rw [h1 k k0 k1]
          refine ⟨?_, rfl⟩
          show 0 ≤ itO (I 115 2) q k ∧ itO (I 115 2) q k < K 115 2
          rw [k115]
          exact hp.1 k k0 k1)
      have bs : bFo (zClr (mS K wo)) (I 115 2) (q + 1) = bUpd (zClr (mS K wo)) (itO (I 115 2) q) (bFo (zClr (mS K wo)) (I 115 2) q) := rfl
      -- behind one order, it being the last
      have t88 : ∀ (J : zMem) (best : Int) (x3 x4 : Option zV), (∀ k : Int, 0 ≤ k → k < I 115 2 → J 141 k = itO (I 115 2) q k) → best = (bFo (zClr (mS K wo)) (I 115 2) (q + 1)).1 → (best = -4 ∨ (0 ≤ best ∧ best ≤ 1010000)) → (0 ≤ best → ∀ k : Int, 0 ≤ k → k < I 115 2 → J 142 k = (bFo (zClr (mS K wo)) (I 115 2) (q + 1)).2 k) →
          (∀ b : Nat, b ≠ 115 → b ≠ 122 → b ≠ 138 → b ≠ 141 → b ≠ 142 → J b = K b) → (∀ j : Int, j ≠ 38 → J 115 j = I 115 j) → (∀ j : Int, 0 ≤ j → j < 18 → J 138 j = I 122 j) →
          WP G mX10_bestBy (d + 7) 0 0 0 0 88 [some (zR 115), some (zI wo), some (zI best), x3, x4] [] n J R (zP1 (fun r I' R' => mBestP I wo q r I' ∧ R' = R)) := by
        intro J best x3 x4 h1 h2 h2b h3 h4 h5 h7
        have e2 : J 115 2 = I 115 2 := h5 2 (by decide)
        have eI : zNi (J 141) (J 115 2 - 1).toNat = zNi (itO (I 115 2) q) (I 115 2 - 1).toNat := by rw [e2]; exact zNi_congr _ (fun k k0 k1 => h1 k k0 (by omega))
        refine wp_canon (fun hI0 => ?_)
        refine wp_aload_n (t := 49) rfl rfl ?_
        refine wp_vi (ci := 10) (c_X10_nextOrder (d := d + 5) hW hn (by rw [e2]; exact hco)) (t := 50) rfl kX10_304 rfl rfl (by omega) (by first | rfl | assumption) ⟨_, _, rfl⟩ (Nat.le_of_ble_eq_true rfl) ⟨Nat.le_refl _, Nat.le_refl _⟩ (fun r89 I89 R89 c89 => ?_)
        refine wp_canon (fun hI1 => ?_)
        obtain ⟨c89, zr89⟩ := c89
        have zr89 := zr89.symm
        subst zr89
        rw [eI] at c89
        have d89 : r89 = 0 ∧ I89 = J := by rcases c89 with q2 | q2; exact q2.2; omega
        obtain ⟨k89, zi89⟩ := d89
        subst zi89
        refine wp_if_ne (t := 51) (tgt := 35) rfl (by decide) (by first | assumption | exact hI1 _ _ | exact hI0 _ _ | exact zin_and _ _ | (unfold zin; omega) | (unfold zin at *; omega)) (fun h92 => ?_) (fun h92 => ?_)
        · exact absurd k89 h92
        · refine wp_aload_n (t := 52) rfl rfl ?_
          refine wp_iconst (t := 53) rfl ?_
          refine wp_vv (ci := 10) (c_X10_putAside (bk := 1) (d := d + 6) hW hn (Or.inr rfl)) (t := 54) rfl kX10_267 rfl rfl (by omega) (by first | rfl | assumption) ⟨_, _, rfl⟩ (Nat.le_of_ble_eq_true rfl) ⟨Nat.le_refl _, Nat.le_refl _⟩ (fun I97 R97 c97 => ?_)
          refine wp_canon (fun hI2 => ?_)
          obtain ⟨⟨-, p97⟩, zr97⟩ := c97
          have zr97 := zr97.symm
          subst zr97
          obtain ⟨f97, s97⟩ := p97 rfl
          refine wp_iload_n (t := 55) rfl rfl ?_
          refine wp_ireturn (t := 56) rfl rfl ?_
          refine ⟨_, rfl, ⟨K, hK, ht, h2, fun b0 k k0 k1 => by rw [f97 142 (by decide)]; exact h3 b0 k k0 k1, h2b, fun b b1 b2 b3 b4 b5 b6 b7 b8 => by rw [f97 b b2, h4 b b1 b2 b6 b7 b8, hK b b3 b4 b5], fun j hj => by rw [f97 115 (by decide)]; exact h5 j hj, fun j j0 j1 => by rw [s97 j j0 j1]; exact h7 j j0 j1⟩, rfl⟩
      -- the order kept as the best
      have copy : ∀ (m : Nat) (k : Int) (J : zMem) (best : Int) (x3 : Int), 0 ≤ k → k ≤ I 115 2 → (I 115 2 - k).toNat = m → (bFo (zClr (mS K wo)) (I 115 2) (q + 1)).2 = itO (I 115 2) q → (∀ k : Int, 0 ≤ k → k < I 115 2 → J 141 k = itO (I 115 2) q k) → best = (bFo (zClr (mS K wo)) (I 115 2) (q + 1)).1 → (best = -4 ∨ (0 ≤ best ∧ best ≤ 1010000)) → (∀ a : Int, 0 ≤ a → a < k → J 142 a = itO (I 115 2) q a) →
          (∀ b : Nat, b ≠ 115 → b ≠ 122 → b ≠ 138 → b ≠ 141 → b ≠ 142 → J b = K b) → (∀ j : Int, j ≠ 38 → J 115 j = I 115 j) → (∀ j : Int, 0 ≤ j → j < 18 → J 138 j = I 122 j) →
          WP G mX10_bestBy (d + 7) 0 0 0 0 59 [some (zR 115), some (zI wo), some (zI best), some (zI x3), some (zI k)] [] n J R (zP1 (fun r I' R' => mBestP I wo q r I' ∧ R' = R)) := by
        intro m
        induction m with
        | zero =>
          intro k J best x3 k0 k1 km hb h1 h2 h2b h3 h4 h5 h7
          have e2 : J 115 2 = I 115 2 := h5 2 (by decide)
          refine wp_canon (fun hI0 => ?_)
          refine wp_iload (t := 35) rfl rfl ?_
          refine wp_aload_n (t := 36) rfl rfl ?_
          refine wp_getI (t := 37) (ji := 2) rfl fX10_115 rfl rfl (by omega) (by first | rfl | assumption) ?_
          rw [e2]
          refine wp_icmp_ge (t := 38) (tgt := 88) rfl (by decide) (by first | assumption | exact hI0 _ _ | exact zin_and _ _ | (unfold zin; omega) | (unfold zin at *; omega)) (by first | assumption | exact hI0 _ _ | exact zin_and _ _ | (unfold zin; omega) | (unfold zin at *; omega)) (fun h65 => ?_) (fun h65 => ?_)
          · exact t88 J best _ _ h1 h2 h2b (fun _ a a0 a1 => by rw [hb]; exact h3 a a0 (by omega)) h4 h5 h7
          · exact absurd h65 (by omega)
        | succ m ih =>
          intro k J best x3 k0 k1 km hb h1 h2 h2b h3 h4 h5 h7
          have e2 : J 115 2 = I 115 2 := h5 2 (by decide)
          refine wp_canon (fun hI0 => ?_)
          refine wp_iload (t := 35) rfl rfl ?_
          refine wp_aload_n (t := 36) rfl rfl ?_
          refine wp_getI (t := 37) (ji := 2) rfl fX10_115 rfl rfl (by omega) (by first | rfl | assumption) ?_
          rw [e2]
          refine wp_icmp_ge (t := 38) (tgt := 88) rfl (by decide) (by first | assumption | exact hI0 _ _ | exact zin_and _ _ | (unfold zin; omega) | (unfold zin at *; omega)) (by first | assumption | exact hI0 _ _ | exact zin_and _ _ | (unfold zin; omega) | (unfold zin at *; omega)) (fun h65 => ?_) (fun h65 => ?_)
          · exact absurd h65 (by omega)
          · refine wp_aload_n (t := 39) rfl rfl ?_
            refine wp_getR (t := 40) (ji := 43) rfl fX10_88 rfl rfl (by omega) (by first | rfl | assumption) (by first | exact hW _ _ _ (by omega) rfl | assumption) ?_
            refine wp_iload (t := 41) rfl rfl ?_
            refine wp_aload_n (t := 42) rfl rfl ?_
            refine wp_getR (t := 43) (ji := 42) rfl fX10_85 rfl rfl (by omega) (by first | rfl | assumption) (by first | exact hW _ _ _ (by omega) rfl | assumption) ?_
            refine wp_iload (t := 44) rfl rfl ?_
            refine wp_iaload (t := 45) rfl (by omega) (by first | rfl | assumption) (by omega) (by omega) (by omega) ?_
            refine wp_iastore (t := 46) rfl (by omega) (by first | rfl | assumption) (by omega) (by omega) (by omega) (by first | assumption | exact hI0 _ _ | exact zin_and _ _ | (unfold zin; omega) | (unfold zin at *; omega)) ?_
            refine wp_canon (fun hI1 => ?_)
            refine wp_iinc (t := 47) rfl rfl (by decide) rfl ?_
            refine wp_goto (t := 48) (tgt := 59) rfl (by decide) ?_
            refine ih (k + 1) _ best _ (by omega) (by omega) (by omega) hb (fun a a0 a1 => by rw [zu_ne (by decide)]; exact h1 a a0 a1) h2 h2b (fun a a0 a1 => ?_) (fun b b1 b2 b3 b4 b5 => by rw [zu_ne b5]; exact h4 b b1 b2 b3 b4 b5) (fun j hj => by rw [zu_ne (by decide)]; exact h5 j hj) (fun j j0 j1 => by rw [zu_ne (by decide)]; exact h7 j j0 j1)
            by_cases e : a = k
            · rw [e, zu_eq]
              exact h1 k k0 (by omega)
            · rw [zu_ni e]
              exact h3 a a0 (by omega)
      refine wp_canon (fun hI0 => ?_)
      refine wp_aload_n (t := 20) rfl rfl ?_
      refine wp_iload_n (t := 21) rfl rfl ?_
      refine wp_vi (ci := 10) (c_X10_goOrder (wo := wo) (d := d) hW hn hchJ hwo (by rw [hS]; exact hgK) (fun c c0 c1 => by rw [h6 c c0 (by omega)]; exact hk c c0 (by omega)) hpJ) (t := 22) rfl kX10_301 rfl rfl (by omega) (by first | rfl | assumption) ⟨_, _, rfl⟩ (Nat.le_of_ble_eq_true rfl) ⟨Nat.le_refl _, Nat.le_refl _⟩ (fun r37 I37 R37 c37 => ?_)
      refine wp_canon (fun hI1 => ?_)
      obtain ⟨⟨e37, b37, f37, g37, k37⟩, zr37⟩ := c37
      have zr37 := zr37.symm
      subst zr37
      rw [hlen] at e37
      have n1 : ∀ k : Int, 0 ≤ k → k < I 115 2 → I37 141 k = itO (I 115 2) q k := fun k k0 k1 => by rw [f37 141 (by decide) (by decide)]; exact h1 k k0 k1
      have n4 : ∀ b : Nat, b ≠ 115 → b ≠ 122 → b ≠ 138 → b ≠ 141 → b ≠ 142 → I37 b = K b := fun b b1 b2 b3 b4 b5 => by rw [f37 b b1 b2]; exact h4 b b1 b2 b3 b4 b5
      have n5 : ∀ j : Int, j ≠ 38 → I37 115 j = I 115 j := fun j hj => by rw [g37 j hj]; exact h5 j hj
      have n7 : ∀ j : Int, 0 ≤ j → j < 18 → I37 138 j = I 122 j := fun j j0 j1 => by rw [f37 138 (by decide) (by decide)]; exact h7 j j0 j1
      have bs2 : bUpd (zClr (mS K wo)) (itO (I 115 2) q) (bFo (zClr (mS K wo)) (I 115 2) q) = if 0 ≤ r37 ∧ (best < 0 ∨ r37 < best) then (r37, itO (I 115 2) q) else bFo (zClr (mS K wo)) (I 115 2) q := by unfold bUpd; rw [← e37, ← h2]
      rw [bs2] at bs
      refine wp_istore_n (t := 23) rfl (by decide) rfl ?_
      refine wp_iload_n (t := 24) rfl rfl ?_
      refine wp_if_lt (t := 25) (tgt := 88) rfl (by decide) (by first | assumption | exact hI1 _ _ | exact hI0 _ _ | exact zin_and _ _ | (unfold zin; omega) | (unfold zin at *; omega)) (fun h42 => ?_) (fun h42 => ?_)
      · rw [if_neg (by omega)] at bs
        exact t88 I37 best _ _ n1 (by rw [bs]; exact h2) h2b (fun b0 k k0 k1 => by rw [bs, f37 142 (by decide) (by decide)]; exact h3 b0 k k0 k1) n4 n5 n7
      · refine wp_iload_n (t := 26) rfl rfl ?_
        refine wp_if_lt (t := 27) (tgt := 54) rfl (by decide) (by first | assumption | exact hI1 _ _ | exact hI0 _ _ | exact zin_and _ _ | (unfold zin; omega) | (unfold zin at *; omega)) (fun h46 => ?_) (fun h46 => ?_)
        · refine wp_iload_n (t := 31) rfl rfl ?_
          refine wp_istore_n (t := 32) rfl (by decide) rfl ?_
          refine wp_iconst (t := 33) rfl ?_
          refine wp_istore (t := 34) rfl (by decide) rfl ?_
          rw [if_pos (by omega)] at bs
          exact copy _ 0 I37 r37 _ (by omega) (by omega) rfl (by rw [bs]) n1 (by rw [bs]) b37 (fun a a0 a1 => absurd a1 (by omega)) n4 n5 n7
        · refine wp_iload_n (t := 28) rfl rfl ?_
          refine wp_iload_n (t := 29) rfl rfl ?_
          refine wp_icmp_ge (t := 30) (tgt := 88) rfl (by decide) (by first | assumption | exact hI1 _ _ | exact hI0 _ _ | exact zin_and _ _ | (unfold zin; omega) | (unfold zin at *; omega)) (by first | assumption | exact hI1 _ _ | exact hI0 _ _ | exact zin_and _ _ | (unfold zin; omega) | (unfold zin at *; omega)) (fun h51 => ?_) (fun h51 => ?_)
          · rw [if_neg (by omega)] at bs
            exact t88 I37 best _ _ n1 (by rw [bs]; exact h2) h2b (fun b0 k k0 k1 => by rw [bs, f37 142 (by decide) (by decide)]; exact h3 b0 k k0 k1) n4 n5 n7
          · refine wp_iload_n (t := 31) rfl rfl ?_
            refine wp_istore_n (t := 32) rfl (by decide) rfl ?_
            refine wp_iconst (t := 33) rfl ?_
            refine wp_istore (t := 34) rfl (by decide) rfl ?_
            rw [if_pos (by omega)] at bs
            exact copy _ 0 I37 r37 _ (by omega) (by omega) rfl (by rw [bs]) n1 (by rw [bs]) b37 (fun a a0 a1 => absurd a1 (by omega)) n4 n5 n7
    | succ m ihm =>
      intro q hq J best x3 x4 h1 h2 h2b h3 h4 h5 h6 h7
      have e2 : J 115 2 = I 115 2 := h5 2 (by decide)
      have hp := hQ1 q (by omega)
      have hpJ : zPerm (J 115 2) (J 141) := by rw [e2]; exact zPerm_congr h1 hp
      have hS : zClr (mS J wo) = zClr (mS K wo) := zClr_ag (fun j j0 j1 => by rw [h5 j (by omega), k115]) (h4 117 (by decide) (by decide) (by decide) (by decide) (by decide)) (h4 120 (by decide) (by decide) (by decide) (by decide) (by decide)) (h4 121 (by decide) (by decide) (by decide) (by decide) (by decide)) (h4 137 (by decide) (by decide) (by decide) (by decide) (by decide))
      have fK : ∀ b : Nat, b ≠ 115 → b ≠ 122 → b ≠ 135 → b ≠ 136 → b ≠ 137 → b ≠ 138 → b ≠ 141 → b ≠ 142 → J b = I b := fun b b1 b2 b3 b4 b5 b6 b7 b8 => by rw [h4 b b1 b2 b6 b7 b8, hK b b3 b4 b5]
      have hchJ : mCh J := by
        unfold mCh at hch ⊢
        rw [h5 0 (by decide), h5 1 (by decide), h5 2 (by decide), h5 3 (by decide), fK 116 (by decide) (by decide) (by decide) (by decide) (by decide) (by decide) (by decide) (by decide), fK 117 (by decide) (by decide) (by decide) (by decide) (by decide) (by decide) (by decide) (by decide), fK 118 (by decide) (by decide) (by decide) (by decide) (by decide) (by decide) (by decide) (by decide), fK 119 (by decide) (by decide) (by decide) (by decide) (by decide) (by decide) (by decide) (by decide)]
        exact hch
      have hlen : gLen (zClr (mS J wo)) (J 141) = gLen (zClr (mS K wo)) (itO (I 115 2) q) := by
        rw [hS]
        exact gLen_ag (zAg_refl _) (by show 0 ≤ K 115 0; rw [k115]; omega) (by show 0 ≤ K 115 2; rw [k115]; omega) (fun k k0 k1 => by
          have k1 : k < K 115 2 := k1
          rw [k115] at k1
          rw [h1 k k0 k1]
          refine ⟨?_, rfl⟩
          show 0 ≤ itO (I 115 2) q k ∧ itO (I 115 2) q k < K 115 2
          rw [k115]
          exact hp.1 k k0 k1)
      have bs : bFo (zClr (mS K wo)) (I 115 2) (q + 1) = bUpd (zClr (mS K wo)) (itO (I 115 2) q) (bFo (zClr (mS K wo)) (I 115 2) q) := rfl
      have hnn := hQ2 q (by omega)
      -- behind one order
      have t88 : ∀ (J : zMem) (best : Int) (x3 x4 : Option zV), (∀ k : Int, 0 ≤ k → k < I 115 2 → J 141 k = itO (I 115 2) q k) → best = (bFo (zClr (mS K wo)) (I 115 2) (q + 1)).1 → (best = -4 ∨ (0 ≤ best ∧ best ≤ 1010000)) → (0 ≤ best → ∀ k : Int, 0 ≤ k → k < I 115 2 → J 142 k = (bFo (zClr (mS K wo)) (I 115 2) (q + 1)).2 k) →
          (∀ b : Nat, b ≠ 115 → b ≠ 122 → b ≠ 138 → b ≠ 141 → b ≠ 142 → J b = K b) → (∀ j : Int, j ≠ 38 → J 115 j = I 115 j) → (∀ j : Int, 0 ≤ j → j < 6 → J 122 j = I 122 j) → (∀ j : Int, 0 ≤ j → j < 18 → J 138 j = I 122 j) →
          WP G mX10_bestBy (d + 7) 0 0 0 0 88 [some (zR 115), some (zI wo), some (zI best), x3, x4] [] n J R (zP1 (fun r I' R' => mBestP I wo Q r I' ∧ R' = R)) := by
        intro J best x3 x4 h1 h2 h2b h3 h4 h5 h6 h7
        have e2 : J 115 2 = I 115 2 := h5 2 (by decide)
        have eI : zNi (J 141) (J 115 2 - 1).toNat = zNi (itO (I 115 2) q) (I 115 2 - 1).toNat := by rw [e2]; exact zNi_congr _ (fun k k0 k1 => h1 k k0 (by omega))
        refine wp_canon (fun hI0 => ?_)
        refine wp_aload_n (t := 49) rfl rfl ?_
        refine wp_vi (ci := 10) (c_X10_nextOrder (d := d + 5) hW hn (by rw [e2]; exact hco)) (t := 50) rfl kX10_304 rfl rfl (by omega) (by first | rfl | assumption) ⟨_, _, rfl⟩ (Nat.le_of_ble_eq_true rfl) ⟨Nat.le_refl _, Nat.le_refl _⟩ (fun r89 I89 R89 c89 => ?_)
        refine wp_canon (fun hI1 => ?_)
        obtain ⟨c89, zr89⟩ := c89
        have zr89 := zr89.symm
        subst zr89
        rw [eI] at c89
        have c89 : r89 = 1 ∧ (∀ b : Nat, b ≠ 141 → I89 b = J b) ∧ ∀ k : Int, 0 ≤ k → k < J 115 2 → I89 141 k = nxO (J 115 2) (J 141) k := by rcases c89 with q2 | q2; omega; exact q2.2
        obtain ⟨c89, f89, o89⟩ := c89
        refine wp_if_ne (t := 51) (tgt := 35) rfl (by decide) (by first | assumption | exact hI1 _ _ | exact hI0 _ _ | exact zin_and _ _ | (unfold zin; omega) | (unfold zin at *; omega)) (fun h92 => ?_) (fun h92 => ?_)
        · refine ihm (q + 1) (by omega) I89 best _ _ (fun k k0 k1 => ?_) h2 h2b (fun b0 k k0 k1 => by rw [f89 142 (by decide)]; exact h3 b0 k k0 k1) (fun b b1 b2 b3 b4 b5 => by rw [f89 b b4]; exact h4 b b1 b2 b3 b4 b5) (fun j hj => by rw [f89 115 (by decide)]; exact h5 j hj) (fun j j0 j1 => by rw [f89 122 (by decide)]; exact h6 j j0 j1) (fun j j0 j1 => by rw [f89 138 (by decide)]; exact h7 j j0 j1)
          rw [o89 k k0 (by omega), e2]
          exact nxO_congr hco.1 h1 (by rw [e2] at eI; rw [eI]; exact hnn) k k0 k1
        · omega
      -- the order kept as the best
      have copy : ∀ (m : Nat) (k : Int) (J : zMem) (best : Int) (x3 : Int), 0 ≤ k → k ≤ I 115 2 → (I 115 2 - k).toNat = m → (bFo (zClr (mS K wo)) (I 115 2) (q + 1)).2 = itO (I 115 2) q → (∀ k : Int, 0 ≤ k → k < I 115 2 → J 141 k = itO (I 115 2) q k) → best = (bFo (zClr (mS K wo)) (I 115 2) (q + 1)).1 → (best = -4 ∨ (0 ≤ best ∧ best ≤ 1010000)) → (∀ a : Int, 0 ≤ a → a < k → J 142 a = itO (I 115 2) q a) →
          (∀ b : Nat, b ≠ 115 → b ≠ 122 → b ≠ 138 → b ≠ 141 → b ≠ 142 → J b = K b) → (∀ j : Int, j ≠ 38 → J 115 j = I 115 j) → (∀ j : Int, 0 ≤ j → j < 6 → J 122 j = I 122 j) → (∀ j : Int, 0 ≤ j → j < 18 → J 138 j = I 122 j) →
          WP G mX10_bestBy (d + 7) 0 0 0 0 59 [some (zR 115), some (zI wo), some (zI best), some (zI x3), some (zI k)] [] n J R (zP1 (fun r I' R' => mBestP I wo Q r I' ∧ R' = R)) := by
        intro m
        induction m with
        | zero =>
          intro k J best x3 k0 k1 km hb h1 h2 h2b h3 h4 h5 h6 h7
          have e2 : J 115 2 = I 115 2 := h5 2 (by decide)
          refine wp_canon (fun hI0 => ?_)
          refine wp_iload (t := 35) rfl rfl ?_
          refine wp_aload_n (t := 36) rfl rfl ?_
          refine wp_getI (t := 37) (ji := 2) rfl fX10_115 rfl rfl (by omega) (by first | rfl | assumption) ?_
          rw [e2]
          refine wp_icmp_ge (t := 38) (tgt := 88) rfl (by decide) (by first | assumption | exact hI0 _ _ | exact zin_and _ _ | (unfold zin; omega) | (unfold zin at *; omega)) (by first | assumption | exact hI0 _ _ | exact zin_and _ _ | (unfold zin; omega) | (unfold zin at *; omega)) (fun h65 => ?_) (fun h65 => ?_)
          · exact t88 J best _ _ h1 h2 h2b (fun _ a a0 a1 => by rw [hb]; exact h3 a a0 (by omega)) h4 h5 h6 h7
          · exact absurd h65 (by omega)
        | succ m ih =>
          intro k J best x3 k0 k1 km hb h1 h2 h2b h3 h4 h5 h6 h7
          have e2 : J 115 2 = I 115 2 := h5 2 (by decide)
          refine wp_canon (fun hI0 => ?_)
          refine wp_iload (t := 35) rfl rfl ?_
          refine wp_aload_n (t := 36) rfl rfl ?_
          refine wp_getI (t := 37) (ji := 2) rfl fX10_115 rfl rfl (by omega) (by first | rfl | assumption) ?_
          rw [e2]
          refine wp_icmp_ge (t := 38) (tgt := 88) rfl (by decide) (by first | assumption | exact hI0 _ _ | exact zin_and _ _ | (unfold zin; omega) | (unfold zin at *; omega)) (by first | assumption | exact hI0 _ _ | exact zin_and _ _ | (unfold zin; omega) | (unfold zin at *; omega)) (fun h65 => ?_) (fun h65 => ?_)
          · exact absurd h65 (by omega)
          · refine wp_aload_n (t := 39) rfl rfl ?_
            refine wp_getR (t := 40) (ji := 43) rfl fX10_88 rfl rfl (by omega) (by first | rfl | assumption) (by first | exact hW _ _ _ (by omega) rfl | assumption) ?_
            refine wp_iload (t := 41) rfl rfl ?_
            refine wp_aload_n (t := 42) rfl rfl ?_
            refine wp_getR (t := 43) (ji := 42) rfl fX10_85 rfl rfl (by omega) (by first | rfl | assumption) (by first | exact hW _ _ _ (by omega) rfl | assumption) ?_
            refine wp_iload (t := 44) rfl rfl ?_
            refine wp_iaload (t := 45) rfl (by omega) (by first | rfl | assumption) (by omega) (by omega) (by omega) ?_
            refine wp_iastore (t := 46) rfl (by omega) (by first | rfl | assumption) (by omega) (by omega) (by omega) (by first | assumption | exact hI0 _ _ | exact zin_and _ _ | (unfold zin; omega) | (unfold zin at *; omega)) ?_
            refine wp_canon (fun hI1 => ?_)
            refine wp_iinc (t := 47) rfl rfl (by decide) rfl ?_
            refine wp_goto (t := 48) (tgt := 59) rfl (by decide) ?_
            refine ih (k + 1) _ best _ (by omega) (by omega) (by omega) hb (fun a a0 a1 => by rw [zu_ne (by decide)]; exact h1 a a0 a1) h2 h2b (fun a a0 a1 => ?_) (fun b b1 b2 b3 b4 b5 => by rw [zu_ne b5]; exact h4 b b1 b2 b3 b4 b5) (fun j hj => by rw [zu_ne (by decide)]; exact h5 j hj) (fun j j0 j1 => by rw [zu_ne (by decide)]; exact h6 j j0 j1) (fun j j0 j1 => by rw [zu_ne (by decide)]; exact h7 j j0 j1)
            by_cases e : a = k
            · rw [e, zu_eq]
              exact h1 k k0 (by omega)
            · rw [zu_ni e]
              exact h3 a a0 (by omega)
      refine wp_canon (fun hI0 => ?_)
      refine wp_aload_n (t := 20) rfl rfl ?_
      refine wp_iload_n (t := 21) rfl rfl ?_
      refine wp_vi (ci := 10) (c_X10_goOrder (wo := wo) (d := d) hW hn hchJ hwo (by rw [hS]; exact hgK) (fun c c0 c1 => by rw [h6 c c0 (by omega)]; exact hk c c0 (by omega)) hpJ) (t := 22) rfl kX10_301 rfl rfl (by omega) (by first | rfl | assumption) ⟨_, _, rfl⟩ (Nat.le_of_ble_eq_true rfl) ⟨Nat.le_refl _, Nat.le_refl _⟩ (fun r37 I37 R37 c37 => ?_)
      refine wp_canon (fun hI1 => ?_)
      obtain ⟨⟨e37, b37, f37, g37, k37⟩, zr37⟩ := c37
      have zr37 := zr37.symm
      subst zr37
      rw [hlen] at e37
      have n1 : ∀ k : Int, 0 ≤ k → k < I 115 2 → I37 141 k = itO (I 115 2) q k := fun k k0 k1 => by rw [f37 141 (by decide) (by decide)]; exact h1 k k0 k1
      have n4 : ∀ b : Nat, b ≠ 115 → b ≠ 122 → b ≠ 138 → b ≠ 141 → b ≠ 142 → I37 b = K b := fun b b1 b2 b3 b4 b5 => by rw [f37 b b1 b2]; exact h4 b b1 b2 b3 b4 b5
      have n5 : ∀ j : Int, j ≠ 38 → I37 115 j = I 115 j := fun j hj => by rw [g37 j hj]; exact h5 j hj
      have n6 : ∀ j : Int, 0 ≤ j → j < 6 → I37 122 j = I 122 j := fun j j0 j1 => by rw [k37 j j0 j1]; exact h6 j j0 j1
      have n7 : ∀ j : Int, 0 ≤ j → j < 18 → I37 138 j = I 122 j := fun j j0 j1 => by rw [f37 138 (by decide) (by decide)]; exact h7 j j0 j1
      have bs2 : bUpd (zClr (mS K wo)) (itO (I 115 2) q) (bFo (zClr (mS K wo)) (I 115 2) q) = if 0 ≤ r37 ∧ (best < 0 ∨ r37 < best) then (r37, itO (I 115 2) q) else bFo (zClr (mS K wo)) (I 115 2) q := by unfold bUpd; rw [← e37, ← h2]
      rw [bs2] at bs
      refine wp_istore_n (t := 23) rfl (by decide) rfl ?_
      refine wp_iload_n (t := 24) rfl rfl ?_
      refine wp_if_lt (t := 25) (tgt := 88) rfl (by decide) (by first | assumption | exact hI1 _ _ | exact hI0 _ _ | exact zin_and _ _ | (unfold zin; omega) | (unfold zin at *; omega)) (fun h42 => ?_) (fun h42 => ?_)
      · rw [if_neg (by omega)] at bs
        exact t88 I37 best _ _ n1 (by rw [bs]; exact h2) h2b (fun b0 k k0 k1 => by rw [bs, f37 142 (by decide) (by decide)]; exact h3 b0 k k0 k1) n4 n5 n6 n7
      · refine wp_iload_n (t := 26) rfl rfl ?_
        refine wp_if_lt (t := 27) (tgt := 54) rfl (by decide) (by first | assumption | exact hI1 _ _ | exact hI0 _ _ | exact zin_and _ _ | (unfold zin; omega) | (unfold zin at *; omega)) (fun h46 => ?_) (fun h46 => ?_)
        · refine wp_iload_n (t := 31) rfl rfl ?_
          refine wp_istore_n (t := 32) rfl (by decide) rfl ?_
          refine wp_iconst (t := 33) rfl ?_
          refine wp_istore (t := 34) rfl (by decide) rfl ?_
          rw [if_pos (by omega)] at bs
          exact copy _ 0 I37 r37 _ (by omega) (by omega) rfl (by rw [bs]) n1 (by rw [bs]) b37 (fun a a0 a1 => absurd a1 (by omega)) n4 n5 n6 n7
        · refine wp_iload_n (t := 28) rfl rfl ?_
          refine wp_iload_n (t := 29) rfl rfl ?_
          refine wp_icmp_ge (t := 30) (tgt := 88) rfl (by decide) (by first | assumption | exact hI1 _ _ | exact hI0 _ _ | exact zin_and _ _ | (unfold zin; omega) | (unfold zin at *; omega)) (by first | assumption | exact hI1 _ _ | exact hI0 _ _ | exact zin_and _ _ | (unfold zin; omega) | (unfold zin at *; omega)) (fun h51 => ?_) (fun h51 => ?_)
          · rw [if_neg (by omega)] at bs
            exact t88 I37 best _ _ n1 (by rw [bs]; exact h2) h2b (fun b0 k k0 k1 => by rw [bs, f37 142 (by decide) (by decide)]; exact h3 b0 k k0 k1) n4 n5 n6 n7
          · refine wp_iload_n (t := 31) rfl rfl ?_
            refine wp_istore_n (t := 32) rfl (by decide) rfl ?_
            refine wp_iconst (t := 33) rfl ?_
            refine wp_istore (t := 34) rfl (by decide) rfl ?_
            rw [if_pos (by omega)] at bs
            exact copy _ 0 I37 r37 _ (by omega) (by omega) rfl (by rw [bs]) n1 (by rw [bs]) b37 (fun a a0 a1 => absurd a1 (by omega)) n4 n5 n6 n7
  have start : ∀ (K : zMem), mSt I K → mTaken K → ∀ (m : Nat) (k : Int) (J : zMem), 0 ≤ k → k ≤ I 115 2 → (I 115 2 - k).toNat = m → (∀ b : Nat, b ≠ 138 → b ≠ 141 → J b = K b) → (∀ j : Int, 0 ≤ j → j < 18 → J 138 j = I 122 j) → (∀ a : Int, 0 ≤ a → a < k → J 141 a = a) →
      WP G mX10_bestBy (d + 7) 0 0 0 0 11 [some (zR 115), some (zI wo), some (zI k), none, none] [] n J R (zP1 (fun r I' R' => mBestP I wo Q r I' ∧ R' = R)) := by
    intro K hK ht m
    have k115 : K 115 = I 115 := hK 115 (by decide) (by decide) (by decide)
    have k122 : K 122 = I 122 := hK 122 (by decide) (by decide) (by decide)
    induction m with
    | zero =>
      intro k J k0 k1 km hf h7 ho
      have e115 : J 115 = I 115 := (hf 115 (by decide) (by decide)).trans k115
      refine wp_canon (fun hI0 => ?_)
      refine wp_iload_n (t := 7) rfl rfl ?_
      refine wp_aload_n (t := 8) rfl rfl ?_
      refine wp_getI (t := 9) (ji := 2) rfl fX10_115 rfl rfl (by omega) (by first | rfl | assumption) ?_
      rw [e115]
      refine wp_icmp_ge (t := 10) (tgt := 32) rfl (by decide) (by first | assumption | exact hI0 _ _ | exact zin_and _ _ | (unfold zin; omega) | (unfold zin at *; omega)) (by first | assumption | exact hI0 _ _ | exact zin_and _ _ | (unfold zin; omega) | (unfold zin at *; omega)) (fun h16 => ?_) (fun h16 => ?_)
      · refine wp_bipush (t := 18) rfl (by decide) ?_
        refine wp_istore_n (t := 19) rfl (by decide) rfl ?_
        exact main K hK ht (fun j _ _ => by rw [k122]) (hg K hK ht) Q 0 (by omega) J (-4) _ _ (fun k k0 k1 => ho k k0 (by omega)) rfl (Or.inl rfl) (fun q => absurd q (by decide)) (fun b b1 b2 b3 b4 b5 => hf b b3 b4) (fun j _ => by rw [e115]) (fun j _ _ => by rw [hf 122 (by decide) (by decide), k122]) h7
      · exact absurd h16 (by omega)
    | succ m ih =>
      intro k J k0 k1 km hf h7 ho
      have e115 : J 115 = I 115 := (hf 115 (by decide) (by decide)).trans k115
      refine wp_canon (fun hI0 => ?_)
      refine wp_iload_n (t := 7) rfl rfl ?_
      refine wp_aload_n (t := 8) rfl rfl ?_
      refine wp_getI (t := 9) (ji := 2) rfl fX10_115 rfl rfl (by omega) (by first | rfl | assumption) ?_
      rw [e115]
      refine wp_icmp_ge (t := 10) (tgt := 32) rfl (by decide) (by first | assumption | exact hI0 _ _ | exact zin_and _ _ | (unfold zin; omega) | (unfold zin at *; omega)) (by first | assumption | exact hI0 _ _ | exact zin_and _ _ | (unfold zin; omega) | (unfold zin at *; omega)) (fun h16 => ?_) (fun h16 => ?_)
      · exact absurd h16 (by omega)
      · refine wp_aload_n (t := 11) rfl rfl ?_
        refine wp_getR (t := 12) (ji := 42) rfl fX10_85 rfl rfl (by omega) (by first | rfl | assumption) (by first | exact hW _ _ _ (by omega) rfl | assumption) ?_
        refine wp_iload_n (t := 13) rfl rfl ?_
        refine wp_iload_n (t := 14) rfl rfl ?_
        refine wp_iastore (t := 15) rfl (by omega) (by first | rfl | assumption) (by omega) (by omega) (by omega) (by first | assumption | exact hI0 _ _ | exact zin_and _ _ | (unfold zin; omega) | (unfold zin at *; omega)) ?_
        refine wp_canon (fun hI1 => ?_)
        refine wp_iinc (t := 16) rfl rfl (by decide) rfl ?_
        refine wp_goto (t := 17) (tgt := 11) rfl (by decide) ?_
        refine ih (k + 1) _ (by omega) (by omega) (by omega) (fun b b1 b2 => by rw [zu_ne b2]; exact hf b b1 b2) (fun j j0 j1 => by rw [zu_ne (by decide)]; exact h7 j j0 j1) (fun a a0 a1 => ?_)
        by_cases e : a = k
        · rw [e, zu_eq]
        · rw [zu_ni e]
          exact ho a a0 (by omega)
  refine wp_ls (ls' := [some (zR 115), some (zI wo), none, none, none]) rfl ?_
  refine wp_aload_n (t := 0) rfl rfl ?_
  refine wp_vv (ci := 10) (c_X10_layTakes (d := d + 4) hW hn hch) (t := 1) rfl kX10_209 rfl rfl (by omega) (by first | rfl | assumption) ⟨_, _, rfl⟩ (Nat.le_of_ble_eq_true rfl) ⟨Nat.le_refl _, Nat.le_refl _⟩ (fun I1 R1 c1 => ?_)
  refine wp_canon (fun hI1 => ?_)
  obtain ⟨⟨sm1, ht1⟩, zr1⟩ := c1
  have zr1 := zr1.symm
  subst zr1
  refine wp_aload_n (t := 2) rfl rfl ?_
  refine wp_iconst (t := 3) rfl ?_
  refine wp_vv (ci := 10) (c_X10_putAside (bk := 0) (d := d + 6) hW hn (Or.inl rfl)) (t := 4) rfl kX10_267 rfl rfl (by omega) (by first | rfl | assumption) ⟨_, _, rfl⟩ (Nat.le_of_ble_eq_true rfl) ⟨Nat.le_refl _, Nat.le_refl _⟩ (fun I6 R6 c6 => ?_)
  refine wp_canon (fun hI2 => ?_)
  obtain ⟨⟨p6, -⟩, zr6⟩ := c6
  have zr6 := zr6.symm
  subst zr6
  obtain ⟨f6, s6⟩ := p6 rfl
  refine wp_iconst (t := 5) rfl ?_
  refine wp_istore_n (t := 6) rfl (by decide) rfl ?_
  exact start I1 sm1 ht1 _ 0 I6 (by omega) (by omega) rfl (fun b b1 b2 => f6 b b1) (fun j j0 j1 => by rw [s6 j j0 j1, sm1 122 (by decide) (by decide) (by decide)]) (fun a a0 a1 => absurd a1 (by omega))
