/-! call by call: a wrapper's numbers; the best plan -/
theorem ilTry_cg {f g : Int → Int} {n w : Int} (h : ∀ i : Int, 0 ≤ i → i < n → f i = g i) : ∀ k : Nat, (k : Int) ≤ n → ilTry f n w k = ilTry g n w k := by
  intro k
  induction k with
  | zero => exact fun _ => rfl
  | succ k ih =>
    intro hk
    funext ld most known
    show (if known ≤ most then known else ilLoop (fun ld' most' known' => ilTry f n w k ld' most' known') ld w (f (n - ((k : Int) + 1))) most w.toNat known) = (if known ≤ most then known else ilLoop (fun ld' most' known' => ilTry g n w k ld' most' known') ld w (g (n - ((k : Int) + 1))) most w.toNat known)
    rw [ih (by omega), h (n - ((k : Int) + 1)) (by omega) (by omega)]
section ZF4
variable {I J K I1 I2 : zMem} {R : zRef} {rho1 rho2 : Int → Nat}
theorem f_wrap {c w wh r1 r2 : Int} (hi : Inv I R rho1 rho2) (h1 : ((¬ ((0 ≤ c ∧ c < I 34 2) ∧ 1 ≤ w ∧ w ≤ I 34 0) ∧ r1 = -1) ∨ (((0 ≤ c ∧ c < I 34 2) ∧ 1 ≤ w ∧ w ≤ I 34 0) ∧ ((wh = 0 ∧ r1 = I (49 + c.toNat) w) ∨ (wh = 1 ∧ ∃ ld : Int → Int, (∀ x : Int, 0 ≤ x → x < 8 → ld x = 0) ∧ r1 = ilTry (I (40 + c.toNat)) (I 38 c) w (I 38 c).toNat ld 0 (I (49 + c.toNat) w)) ∨ (wh = 2 ∧ r1 = tkOf (I 65 c) (I 36 c) (I (49 + c.toNat) w)) ∨ ((wh < 0 ∨ 2 < wh) ∧ r1 = -1)))) ∧ (∀ b : Nat, b ≠ 62 → I1 b = I b))
    (h2 : ((¬ ((0 ≤ c ∧ c < I1 115 2) ∧ 1 ≤ w ∧ w ≤ I1 115 0) ∧ r2 = -1) ∨ (((0 ≤ c ∧ c < I1 115 2) ∧ 1 ≤ w ∧ w ≤ I1 115 0) ∧ ((wh = 0 ∧ r2 = (mLp I1 c w (I1 118 c).toNat).2.2) ∨ (wh = 1 ∧ mIdP I1 c w r2) ∨ (wh = 2 ∧ r2 = mTo I1 (I1 122 c) c w) ∨ ((wh < 0 ∨ 2 < wh) ∧ r2 = -1)))) ∧ mSw I1 I2) : r1 = r2 ∧ Inv I2 R rho1 rho2 := by
  obtain ⟨h1, k1⟩ := h1
  obtain ⟨h2, k2⟩ := h2
  have hi1 : Inv I1 R rho1 rho2 := Inv_kc ⟨fun b hb => k1 b (by omega), fun j _ => congrFun (k1 115 (by omega)) j⟩ (fun b b0 b1 => k1 b (by omega)) hi
  refine ⟨?_, Inv_kc (mSw_kp k2).1 (mSw_kp k2).2 hi1⟩
  have hc := hi1.2.1
  obtain ⟨hz, hl, ⟨e0, e1, e2, e3⟩, c1, c2⟩ := id hc
  have n6 := hz.1
  have n8 := hz.2.1
  rw [e2, e0] at h2
  rw [← k1 34 (by omega), ← k1 36 (by omega), ← k1 38 (by omega), ← k1 65 (by omega)] at h1
  rcases h1 with ⟨q, a⟩ | ⟨q, a⟩
  · rcases h2 with ⟨-, b⟩ | ⟨q2, -⟩
    · omega
    · exact absurd q2 q
  · rcases h2 with ⟨q2, -⟩ | ⟨-, b⟩
    · exact absurd q q2
    · rw [← k1 (49 + c.toNat) (by omega), ← k1 (40 + c.toNat) (by omega)] at a
      have g := c1 c q.1.1 q.1.2
      have f := hz.2.2.2.2.1 c q.1.1 q.1.2
      have hlp := iLp hc q.1.1 q.1.2 q.2.1 q.2.2
      have hlw := (hl c w q.1.1 q.1.2 q.2.1 q.2.2).1
      rcases a with ⟨w0, a⟩ | ⟨w0, ld, ld0, a⟩ | ⟨w0, a⟩ | ⟨w0, a⟩
      · rcases b with ⟨_, b⟩ | ⟨v0, _⟩ | ⟨v0, _⟩ | ⟨v0, _⟩
        · rw [a, b, hlp]
          exact hlw
        · omega
        · omega
        · omega
      · rcases b with ⟨v0, _⟩ | ⟨_, b⟩ | ⟨v0, _⟩ | ⟨v0, _⟩
        · omega
        · unfold mIdP mWd at b
          rw [g.2.2.1] at b
          have hm : mLp I1 c w (I1 118 c).toNat = zlp (mLn I1 c) (I1 38 c).toNat w.toNat (I1 38 c).toNat := by
            unfold mLp
            rw [g.2.2.1]
          have hlw2 : I1 (49 + c.toNat) w = (zlp (mLn I1 c) (I1 38 c).toNat w.toNat (I1 38 c).toNat).2.2 := by rw [← hm, hlp]; exact hlw
          rw [a, b, hlw2, ilTry_cg (f := I1 (40 + c.toNat)) (g := mLn I1 c) (fun i i0 i1 => (g.2.2.2 i i0 i1).symm) _ (by omega)]
          exact ideal_eq f.2.2.1 ⟨q.2.1, by omega⟩ (fun i i0 i1 => by
            show 1 ≤ I1 119 (6 * c + i) ∧ I1 119 (6 * c + i) ≤ 9
            rw [g.2.2.2 i i0 i1]
            exact f.2.2.2.1 i i0 i1) ld0 (fun _ _ _ => rfl)
        · omega
        · omega
      · rcases b with ⟨v0, _⟩ | ⟨v0, _⟩ | ⟨_, b⟩ | ⟨v0, _⟩
        · omega
        · omega
        · rw [a, b, iTo hc q.1.1 q.1.2 q.2.1 q.2.2, (hi1.2.2.1.1 c q.1.1 q.1.2).2.1]
        · omega
      · rcases b with ⟨v0, _⟩ | ⟨v0, _⟩ | ⟨v0, _⟩ | ⟨_, b⟩
        · omega
        · omega
        · omega
        · omega
theorem iPl_ex2 (h : kCh I J) (hz : zCh I) (hp : ∀ b : Nat, 65 ≤ b → b ≤ 69 → J b = I b) (hm : ∀ j : Int, 0 ≤ j → j < 18 → J 122 j = I 122 j) (hi : iPl I) : iPl J := by
  have n6 := hz.1
  refine ⟨fun c c0 c1 => ?_, iAh_ext h (hp 69 (by omega) (by omega)) hi.2⟩
  rw [h 34 (by omega) (by omega)] at c1
  rw [hp 65 (by omega) (by omega), hp 66 (by omega) (by omega), hp 67 (by omega) (by omega), hp 68 (by omega) (by omega), hm c c0 (by omega), hm (6 + c) (by omega) (by omega), hm (12 + c) (by omega) (by omega)]
  have g := hi.1 c c0 c1
  exact ⟨rOk_ext h c0 (by omega) g.1, g.2⟩
/-- what the reference's best leaves -/
theorem Inv_bst {r : Int} {wo : Int} {Q : Nat} (h : mBestP I wo Q r J) (hi : Inv I R rho1 rho2) : Inv J R rho1 rho2 := by
  obtain ⟨K, k1, k2, k3, k4, k5, k6, k7, k8⟩ := h
  have hb : ∀ b : Nat, b < 115 → J b = I b := fun b b1 => k6 b (by omega) (by omega) (by omega) (by omega) (by omega) (by omega) (by omega) (by omega)
  have hm : ∀ b : Nat, b = 116 ∨ b = 117 ∨ b = 118 ∨ b = 119 ∨ b = 120 ∨ b = 121 ∨ b = 123 ∨ b = 124 ∨ b = 125 ∨ b = 126 ∨ b = 127 → J b = I b := fun b b1 => k6 b (by omega) (by omega) (by omega) (by omega) (by omega) (by omega) (by omega) (by omega)
  obtain ⟨i1, i2, i3, i4, i5, i6, i7, i8, i9, i10, i11⟩ := hi
  have kc : kCh I J := fun b b0 b1 => hb b (by omega)
  have hz := i2.1
  refine ⟨iTx_ext (hb 1 (by omega)) (hb 2 (by omega)) (hm 127 (by omega)) (k7 20 (by omega)) i1, iCh_ext kc (fun b b0 b1 => hm b (by omega)) (fun j j0 j1 => k7 j (by omega)) i2, iPl_ex2 kc hz (fun b b0 b1 => hb b (by omega)) k8 i3, iHs_ext kc hz (congrFun (hb 95 (by omega)) 1) (k7 12 (by omega)) (hm 123 (by omega)) (fun q q0 q1 => hb _ (by have := (i9.1 q q0 (by have := i4.2.1; omega)).2; omega)) i4, iHs_ext kc hz (congrFun (hb 105 (by omega)) 1) (k7 16 (by omega)) (hm 125 (by omega)) (fun q q0 q1 => hb _ (by have := (i10.1 q q0 (by have := i5.2.1; omega)).2; omega)) i5, iWh_ext (hb 109 (by omega)) (hb 110 (by omega)) (hm 126 (by omega)) (k7 18 (by omega)) i6, iSe_ext (hb 34 (by omega)) (hb 111 (by omega)) (hb 112 (by omega)) (hb 113 (by omega)) (hb 114 (by omega)) (hm 124 (by omega)) (k7 14 (by omega)) i7, zCache_ext (fun _ _ _ _ h => bB_ext kc hz h) (hb 34 (by omega)) (fun b b0 b1 => hb b (by omega)) i8, i9, i10, i11⟩
/-- what the class's search leaves -/
theorem Inv_src (hb : ∀ b : Nat, (b < 72 ∨ 93 < b) → J b = I b) (hc : zCache (bB I) J) (hi : Inv I R rho1 rho2) : Inv J R rho1 rho2 :=
  Inv_kp ⟨fun b h => hb b (by omega), fun j _ => congrFun (hb 115 (by omega)) j⟩ (zCache_B (fun _ _ _ _ h => bB_ext (fun b b0 b1 => hb b (by omega)) hi.2.1.1 h) hc) hi
/-- the class's best and the reference's -/
theorem iBst {r0 rm lo wo : Int} {o : Int → Int} {J2 : zMem} (hi : Inv I R rho1 rho2) (hl : lo = wo ∨ (lo < 0 ∧ wo < 0)) (h1 : cBst (bB I) I lo r0 o) (h2 : mBestP I wo (zQn (I 34 2)) rm J2) : r0 = rm ∧ (0 ≤ r0 → ∀ k : Int, 0 ≤ k → k < I 34 2 → o k = J2 142 k) := by
  have hc := hi.2.1
  have hp := hi.2.2.1
  obtain ⟨K, k1, k2, k3, k4, k5, -⟩ := h2
  have hka : ∀ c : Int, 0 ≤ c → c < I 34 2 → 0 ≤ I 65 c ∧ I 65 c ≤ 3 := fun c c0 c1 => (hp.1 c c0 c1).1.1
  have gd := bGd hc.1 lo hka
  have ag := bAg (lo := lo) hc (ka := I 65) (fun c c0 c1 => (hp.1 c c0 c1).2.1) k1 k2 hl
  have e := bFo_ag ag (show 0 ≤ I 34 0 by have := hc.1.2.1; omega) hc.1.1 _ (Nat.le_refl _)
  have e : bFo (bS I (I 65) lo) (I 34 2) (zQn (I 34 2) + 1) = bFo (zClr (mS K wo)) (I 34 2) (zQn (I 34 2) + 1) := e
  rw [hc.2.2.1.2.2.1, ← e] at k3 k4
  rcases h1 with ⟨a1, c, c0, c1, c2⟩ | ⟨a1, a2, a3⟩
  · have b := bFo_none gd c0 c1 c2 _ (Nat.le_refl _)
    have b : (bFo (bS I (I 65) lo) (I 34 2) (zQn (I 34 2) + 1)).1 = -4 := b
    exact ⟨by omega, fun h => by omega⟩
  · refine ⟨a2.trans k3.symm, fun h k q0 q1 => ?_⟩
    rw [k4 (by omega) k q0 q1]
    exact a3 k q0 q1
theorem f_best {k r1 r2 : Int} (hi : Inv I R rho1 rho2) (h1 : (¬ (-1 ≤ k ∧ k < I 34 2) ∧ r1 = -1 ∧ I1 = I) ∨ ((-1 ≤ k ∧ k < I 34 2) ∧ (∀ b : Nat, (b < 72 ∨ 93 < b) → I1 b = I b) ∧ zCache (bB I) I1 ∧ ∃ (r0 : Int) (o : Int → Int), cBst (bB I) I (-1) r0 o ∧ r1 = if r0 = -4 ∨ k = -1 then r0 else o k))
    (h2 : (¬ (-1 ≤ k ∧ k < I1 115 2) ∧ r2 = -1 ∧ I2 = I1) ∨ ((-1 ≤ k ∧ k < I1 115 2) ∧ ∃ r0 : Int, mBestP I1 (-4) (zQn (I 34 2)) r0 I2 ∧ r2 = if k < 0 ∨ r0 < 0 then r0 else I2 142 k)) : r1 = r2 ∧ Inv I2 R rho1 rho2 := by
  rcases h1 with ⟨q, rfl, rfl⟩ | ⟨q, f, hca, r0, o, hb, a⟩
  · rw [hi.2.1.2.2.1.2.2.1] at h2
    rcases h2 with ⟨-, b, rfl⟩ | ⟨q2, -⟩
    · exact ⟨by omega, hi⟩
    · exact absurd q2 q
  · have hi1 := Inv_src f hca hi
    have e34 : I1 34 = I 34 := f 34 (by omega)
    rw [hi1.2.1.2.2.1.2.2.1, e34] at h2
    rcases h2 with ⟨q2, -⟩ | ⟨-, rm, hm, b⟩
    · exact absurd q q2
    · refine ⟨?_, Inv_bst hm hi1⟩
      have hb1 : cBst (bB I1) I1 (-1) r0 o := by
        unfold cBst at hb ⊢
        rw [e34, f 37 (by omega), f 65 (by omega)]
        rcases hb with h | ⟨h, g⟩
        · exact Or.inl h
        · exact Or.inr ⟨h, bB_ext (fun b b0 b1 => f b (by omega)) hi.2.1.1 g⟩
      rw [← e34] at hm
      have g := iBst hi1 (Or.inr ⟨by decide, by decide⟩) hb1 hm
      rw [e34] at g
      obtain ⟨K, -, -, -, -, k5, -⟩ := hm
      obtain ⟨g1, g2⟩ := g
      rw [a, b, ← g1]
      by_cases z : r0 = -4 ∨ k = -1
      · rw [if_pos z, if_pos (by omega)]
      · rw [if_neg z, if_neg (by omega)]
        exact g2 (by omega) k (by omega) q.2
theorem f_costs {bb r1 r2 : Int} (hi : Inv I R rho1 rho2) (h1 : (¬ (0 ≤ bb ∧ bb < I 34 3) ∧ r1 = -1 ∧ I1 = I) ∨ ((0 ≤ bb ∧ bb < I 34 3) ∧ (∀ b : Nat, (b < 72 ∨ 93 < b) → I1 b = I b) ∧ zCache (bB I) I1 ∧ ∃ (r0 r9 : Int) (o o1 : Int → Int), cBst (bB I) I (-1) r0 o ∧ cBst (bB I) I bb r9 o1 ∧ r1 = if r0 = -4 ∨ r9 = -4 then -4 else r0 - r9 + 100000))
    (h2 : (¬ (0 ≤ bb ∧ bb < I1 115 3) ∧ r2 = -1 ∧ I2 = I1) ∨ ((0 ≤ bb ∧ bb < I1 115 3) ∧ ∃ (r0 : Int) (Ia : zMem), mBestP I1 (-4) (zQn (I 34 2)) r0 Ia ∧ ((r0 < 0 ∧ r2 = -4 ∧ I2 = Ia) ∨ (0 ≤ r0 ∧ ∃ r9 : Int, mBestP Ia bb (zQn (I 34 2)) r9 I2 ∧ r2 = r0 - r9 + 100000)))) : r1 = r2 ∧ Inv I2 R rho1 rho2 := by
  rcases h1 with ⟨q, rfl, rfl⟩ | ⟨q, f, hca, r0, r9, o, o1, hb, hb9, a⟩
  · rw [hi.2.1.2.2.1.2.2.2] at h2
    rcases h2 with ⟨-, b, rfl⟩ | ⟨q2, -⟩
    · exact ⟨by omega, hi⟩
    · exact absurd q2 q
  · have hi1 := Inv_src f hca hi
    have e34 : I1 34 = I 34 := f 34 (by omega)
    rw [hi1.2.1.2.2.1.2.2.2, e34] at h2
    rcases h2 with ⟨q2, -⟩ | ⟨-, rm, Ia, hm, b⟩
    · exact absurd q q2
    · have hia := Inv_bst hm hi1
      have hbx : ∀ (M : zMem), (∀ b : Nat, b < 72 → M b = I b) → ∀ (lo rr : Int) (oo : Int → Int), cBst (bB I) I lo rr oo → cBst (bB M) M lo rr oo := fun M hM lo rr oo hh => by
        unfold cBst at hh ⊢
        rw [hM 34 (by omega), hM 37 (by omega), hM 65 (by omega)]
        rcases hh with h | ⟨h, g⟩
        · exact Or.inl h
        · exact Or.inr ⟨h, bB_ext (fun b b0 b1 => hM b (by omega)) hi.2.1.1 g⟩
      have hM1 : ∀ b : Nat, b < 72 → I1 b = I b := fun b hb => f b (by omega)
      have g := iBst (lo := -1) (wo := -4) hi1 (Or.inr ⟨by decide, by decide⟩) (hbx I1 hM1 _ _ _ hb) (by rw [e34]; exact hm)
      obtain ⟨K, -, -, -, -, k5, k6, -⟩ := id hm
      have hMa : ∀ b : Nat, b < 72 → Ia b = I b := fun b hb => (k6 b (by omega) (by omega) (by omega) (by omega) (by omega) (by omega) (by omega) (by omega)).trans (hM1 b hb)
      rcases b with ⟨b0, b1, rfl⟩ | ⟨b0, rn, hn, b1⟩
      · refine ⟨?_, hia⟩
        rw [a, if_pos (by omega), b1]
      · refine ⟨?_, Inv_bst hn hia⟩
        have g9 := iBst hia (Or.inl rfl) (hbx Ia hMa _ _ _ hb9) (by rw [hMa 34 (by omega)]; exact hn)
        have nz : ¬ r9 = -4 := by
          intro z
          rcases hb9 with ⟨-, c, c0, c1, c2⟩ | ⟨w1, w2, -⟩
          · rcases hb with ⟨y, -⟩ | ⟨y, -⟩
            · omega
            · have := y c c0 c1
              omega
          · have hka : ∀ c : Int, 0 ≤ c → c < I 34 2 → 0 ≤ I 65 c ∧ I 65 c ≤ 3 := fun c c0 c1 => (hi.2.2.1.1 c c0 c1).1.1
            have t := (tTry_bFo (bGd hi.2.1.1 bb hka) (fun _ _ _ => rfl) (fun c c0 c1 => w1 c c0 c1) (fun _ => 0) (fun _ => 0)).2.2.1
            have t : 0 ≤ (bFo (bS I (I 65) bb) (I 34 2) (zQn (I 34 2) + 1)).1 := t
            omega
        rw [a, if_neg (by omega), b1, g.1, g9.1]
end ZF4
