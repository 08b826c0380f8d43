/-! what keeps the invariant -/
section ZE
variable {I J : zMem}
def kCh (I J : zMem) : Prop := ∀ b : Nat, 34 ≤ b → b ≤ 61 → J b = I b
theorem kCh_z (h : kCh I J) (hz : zCh I) : zCh J := by
  obtain ⟨h1, h2, h3, h4, h5, h6⟩ := hz
  unfold zCh
  rw [h 34 (by omega) (by omega), h 36 (by omega) (by omega), h 37 (by omega) (by omega), h 38 (by omega) (by omega), h 46 (by omega) (by omega), h 47 (by omega) (by omega)]
  refine ⟨h1, h2, h3, h4, fun c c0 c1 => ?_, h6⟩
  rw [h (40 + c.toNat) (by omega) (by omega), h (49 + c.toNat) (by omega) (by omega)]
  exact h5 c c0 c1
theorem kCh_l (h : kCh I J) (hz : zCh I) (hl : zLaid I) : zLaid J := by
  intro c w c0 c1 w0 w1
  have n6 := hz.1
  rw [h 34 (by omega) (by omega)] at c1 w1
  rw [h 38 (by omega) (by omega), h (40 + c.toNat) (by omega) (by omega), h (49 + c.toNat) (by omega) (by omega), h (56 + c.toNat) (by omega) (by omega)]
  exact hl c w c0 c1 w0 w1
theorem iTx_ext (h1 : J 1 = I 1) (h2 : J 2 = I 2) (h3 : J 127 = I 127) (h4 : J 115 20 = I 115 20) (h : iTx I) : iTx J := by
  unfold iTx at h ⊢
  rw [h1, h2, h3, h4]
  exact h
theorem iCh_ext (h : kCh I J) (hm : ∀ b : Nat, 116 ≤ b → b ≤ 121 → J b = I b) (hj : ∀ j : Int, 0 ≤ j → j < 4 → J 115 j = I 115 j) (hc : iCh I) : iCh J := by
  obtain ⟨hz, hl, e, c1, c2⟩ := hc
  have n6 := hz.1
  refine ⟨kCh_z h hz, kCh_l h hz hl, ?_, fun c c0 cn => ?_, fun b b0 b1 => ?_⟩
  · rw [h 34 (by omega) (by omega), hj 0 (by omega) (by omega), hj 1 (by omega) (by omega), hj 2 (by omega) (by omega), hj 3 (by omega) (by omega)]
    exact e
  · rw [h 34 (by omega) (by omega)] at cn
    rw [h 36 (by omega) (by omega), h 37 (by omega) (by omega), h 38 (by omega) (by omega), hm 116 (by omega) (by omega), hm 117 (by omega) (by omega), hm 118 (by omega) (by omega), hm 119 (by omega) (by omega), h (40 + c.toNat) (by omega) (by omega)]
    exact c1 c c0 cn
  · rw [h 34 (by omega) (by omega)] at b1
    rw [h 46 (by omega) (by omega), h 47 (by omega) (by omega), hm 120 (by omega) (by omega), hm 121 (by omega) (by omega)]
    exact c2 b b0 b1
theorem rOk_ext (h : kCh I J) {c k w f u : Int} (c0 : 0 ≤ c) (c1 : c < 6) (hr : rOk I c k w f u) : rOk J c k w f u := by
  unfold rOk at hr ⊢
  rw [h 34 (by omega) (by omega), h 36 (by omega) (by omega), h (49 + c.toNat) (by omega) (by omega)]
  exact hr
theorem iAh_ext (h : kCh I J) (h9 : J 69 = I 69) (ha : iAh I) : iAh J := by
  unfold iAh at ha ⊢
  rw [h 34 (by omega) (by omega), h 46 (by omega) (by omega), h 47 (by omega) (by omega), h9]
  exact ha
theorem iPl_ext (h : kCh I J) (hz : zCh I) (hp : ∀ b : Nat, 65 ≤ b → b ≤ 69 → J b = I b) (hm : J 122 = I 122) (hi : iPl I) : iPl J := by
  have n6 := hz.1
  refine ⟨fun c c0 c1 => ?_, iAh_ext h (hp 69 (by omega) (by omega)) hi.2⟩
  rw [h 34 (by omega) (by omega)] at c1
  rw [hp 65 (by omega) (by omega), hp 66 (by omega) (by omega), hp 67 (by omega) (by omega), hp 68 (by omega) (by omega), hm]
  have g := hi.1 c c0 c1
  exact ⟨rOk_ext h c0 (by omega) g.1, g.2⟩
theorem iRw_ext (h : kCh I J) (hz : zCh I) {r r' m : Nat} {q q' : Int} (hr : ∀ j : Int, 0 ≤ j → j < 24 → J r' j = I r j) (hm : ∀ j : Int, 0 ≤ j → j < 18 → J m (18 * q' + j) = I m (18 * q + j)) (hi : iRw I r m q) : iRw J r' m q' := by
  have n6 := hz.1
  intro c c0 c1
  rw [h 34 (by omega) (by omega)] at c1
  have g := hi c c0 c1
  rw [hr c (by omega) (by omega), hr (6 + c) (by omega) (by omega), hr (12 + c) (by omega) (by omega), hr (18 + c) (by omega) (by omega), hm c (by omega) (by omega), hm (6 + c) (by omega) (by omega), hm (12 + c) (by omega) (by omega)]
  exact ⟨rOk_ext h c0 (by omega) g.1, g.2⟩
theorem iHs_ext (h : kCh I J) (hz : zCh I) {o m : Nat} {j cap : Int} {rho : Int → Nat} (ho : J o 1 = I o 1) (hj : J 115 j = I 115 j) (hm : J m = I m) (hr : ∀ q : Int, 0 ≤ q → q < I o 1 → J (rho q) = I (rho q)) (hi : iHs I o m j cap rho) : iHs J o m j cap rho := by
  obtain ⟨h1, h2, h3⟩ := hi
  refine ⟨by rw [hj, ho]; exact h1, by rw [ho]; exact h2, fun q q0 q1 => ?_⟩
  rw [ho] at q1
  exact iRw_ext h hz (fun j _ _ => by rw [hr q q0 q1]) (fun j _ _ => by rw [hm]) (h3 q q0 q1)
theorem iWh_ext (h1 : J 109 = I 109) (h2 : J 110 = I 110) (h3 : J 126 = I 126) (h4 : J 115 18 = I 115 18) (h : iWh I) : iWh J := by
  unfold iWh at h ⊢
  rw [h1, h2, h3, h4]
  exact h
theorem iSe_ext (h0 : J 34 = I 34) (h1 : J 111 = I 111) (h2 : J 112 = I 112) (h3 : J 113 = I 113) (h4 : J 114 = I 114) (h5 : J 124 = I 124) (h6 : J 115 14 = I 115 14) (h : iSe I) : iSe J := by
  unfold iSe zSe at h ⊢
  rw [h0, h1, h2, h3, h4, h5, h6]
  exact h
theorem bB_ext (h : kCh I J) (hz : zCh I) {ka o : Int → Int} {lo r : Int} (hb : bB I ka lo r o) : bB J ka lo r o := by
  have n6 := hz.1
  have e34 := h 34 (by omega) (by omega)
  have ag : zAg (bS I ka lo) (bS J ka lo) := by
    refine ⟨?_, ?_, ?_, fun c c0 c1 => ⟨?_, fun w _ _ => ?_, fun a _ _ => ?_, rfl, fun _ => ⟨rfl, rfl⟩⟩⟩
    · show I 34 2 = J 34 2
      rw [e34]
    · show I 34 0 = J 34 0
      rw [e34]
    · show I 34 1 = J 34 1
      rw [e34]
    · show I 37 c = J 37 c
      rw [h 37 (by omega) (by omega)]
    · have c1 : c < I 34 2 := c1
      show tkOf (ka c) (I 36 c) (I (49 + c.toNat) w) = tkOf (ka c) (J 36 c) (J (49 + c.toNat) w)
      rw [h 36 (by omega) (by omega), h (49 + c.toNat) (by omega) (by omega)]
    · show bA I lo a c = bA J lo a c
      unfold bA
      rw [e34, h 46 (by omega) (by omega), h 47 (by omega) (by omega)]
  have e := bFo_ag ag (show 0 ≤ I 34 0 by have := hz.2.1; omega) n6 _ (Nat.le_refl _)
  have e : bFo (bS I ka lo) (I 34 2) (zQn (I 34 2) + 1) = bFo (bS J ka lo) (I 34 2) (zQn (I 34 2) + 1) := e
  unfold bB at hb ⊢
  rw [e34, ← e]
  exact hb
theorem zCache_ext {B B' : zBst} (hB : ∀ ka lo r o, B ka lo r o → B' ka lo r o) (h : J 34 = I 34) (hs : ∀ b : Nat, 75 ≤ b → b ≤ 85 → J b = I b) (hc : zCache B I) : zCache B' J := by
  intro s s0 s1
  rw [hs 85 (by omega) (by omega), hs 84 (by omega) (by omega), hs (75 + s.toNat) (by omega) (by omega), h]
  rcases hc s s0 s1 with g | ⟨ka, k1, k2, k3, k4⟩
  · exact Or.inl g
  · exact Or.inr ⟨ka, k1, k2, hB _ _ _ _ k3, k4⟩
theorem zCache_B {B B' : zBst} (hB : ∀ ka lo r o, B ka lo r o → B' ka lo r o) (hc : zCache B I) : zCache B' I := zCache_ext hB rfl (fun _ _ _ => rfl) hc
/-- the cells that the invariant speaks of -/
def iKp (I J : zMem) : Prop := (∀ b : Nat, b = 1 ∨ b = 2 ∨ (34 ≤ b ∧ b ≤ 61) ∨ (65 ≤ b ∧ b ≤ 69) ∨ (95 ≤ b ∧ b ≤ 114) ∨ (116 ≤ b ∧ b ≤ 127) → J b = I b) ∧ ∀ j : Int, (0 ≤ j ∧ j < 4) ∨ j = 12 ∨ j = 14 ∨ j = 16 ∨ j = 18 ∨ j = 20 → J 115 j = I 115 j
theorem iKp_rfl : iKp I I := ⟨fun _ _ => rfl, fun _ _ => rfl⟩
theorem iKp_trans {K : zMem} (h : iKp I J) (k : iKp J K) : iKp I K := ⟨fun b hb => (k.1 b hb).trans (h.1 b hb), fun j hj => (k.2 j hj).trans (h.2 j hj)⟩
theorem iKp_ch (h : iKp I J) : kCh I J := fun b b0 b1 => h.1 b (by omega)
theorem Inv_kp {R : zRef} {rho1 rho2 : Int → Nat} (h : iKp I J) (hc : zCache (bB J) J) (hi : Inv I R rho1 rho2) : Inv J R rho1 rho2 := by
  obtain ⟨i1, i2, i3, i4, i5, i6, i7, i8, i9, i10, i11⟩ := hi
  have kc := iKp_ch h
  have hz := i2.1
  refine ⟨iTx_ext (h.1 1 (by omega)) (h.1 2 (by omega)) (h.1 127 (by omega)) (h.2 20 (by omega)) i1, iCh_ext kc (fun b b0 b1 => h.1 b (by omega)) (fun j j0 j1 => h.2 j (by omega)) i2, iPl_ext kc hz (fun b b0 b1 => h.1 b (by omega)) (h.1 122 (by omega)) i3, iHs_ext kc hz (congrFun (h.1 95 (by omega)) 1) (h.2 12 (by omega)) (h.1 123 (by omega)) (fun q q0 q1 => h.1 _ (by have := (i9.1 q q0 (by have := i4.2.1; omega)).2; omega)) i4, iHs_ext kc hz (congrFun (h.1 105 (by omega)) 1) (h.2 16 (by omega)) (h.1 125 (by omega)) (fun q q0 q1 => h.1 _ (by have := (i10.1 q q0 (by have := i5.2.1; omega)).2; omega)) i5, iWh_ext (h.1 109 (by omega)) (h.1 110 (by omega)) (h.1 126 (by omega)) (h.2 18 (by omega)) i6, iSe_ext (h.1 34 (by omega)) (h.1 111 (by omega)) (h.1 112 (by omega)) (h.1 113 (by omega)) (h.1 114 (by omega)) (h.1 124 (by omega)) (h.2 14 (by omega)) i7, hc, i9, i10, i11⟩
theorem Inv_kc {R : zRef} {rho1 rho2 : Int → Nat} (h : iKp I J) (hs : ∀ b : Nat, 75 ≤ b → b ≤ 85 → J b = I b) (hi : Inv I R rho1 rho2) : Inv J R rho1 rho2 :=
  Inv_kp h (zCache_ext (fun _ _ _ _ hb => bB_ext (iKp_ch h) hi.2.1.1 hb) (h.1 34 (by omega)) hs hi.2.2.2.2.2.2.2.1) hi
end ZE
