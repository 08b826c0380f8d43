/-! call by call: fill -/
section ZF9
variable {I J K Z I1 I2 : zMem} {R R1 : zRef} {rho rho1 rho2 rho1' rho2' : Int → Nat}
theorem f_fill {r1 r2 : Int} (hi : Inv I R rho1 rho2) (h1 : cFillP I R rho1 143 r1 I1 R1) (h2 : mFillP I1 r2 I2) : r1 = r2 ∧ ∃ rho1' : Int → Nat, Inv I2 R1 rho1' rho2 := by
  have e2 := hi.2.1.2.2.1.2.2.1
  have n6 := hi.2.1.1.1
  have s1 := hi.2.2.2.2.2.2.2.2.1
  have s2 := hi.2.2.2.2.2.2.2.2.2.1
  obtain ⟨z, hz, h1⟩ := h1
  obtain ⟨Km, z', s, tk, hz', fr, h2⟩ := h2
  have hI : ∀ b : Nat, 115 ≤ b → I1 b = I b := fun b hb => by
    rcases h1 with ⟨-, -, -, -, -, f⟩ | ⟨-, -, K, k1, -, -, ⟨_, _, _, _, _, p5⟩, -⟩
    · exact f b (by omega) (by omega) (by omega) (by omega) (by omega) (by omega) (by omega)
    · rw [p5 b (by omega), k1 b (by omega) (by omega) (by omega), zwr_na (by omega)]
  have ag := iAg2 hi.2.1 hi.2.2.1 hI s tk
  rw [hI 115 (by omega), e2] at hz' h2
  obtain ⟨ra, rb⟩ := fRun_ag ag (show 0 ≤ I 34 0 by have := hi.2.1.1.2.1; omega) (I 34 2).toNat (by show ((I 34 2).toNat : Int) ≤ I 34 2; omega)
  rw [← hz, ← hz'] at ra rb
  have gz := fRun_gd (iGd hi.2.1 hi.2.2.1) (I 34 2).toNat (by show ((I 34 2).toNat : Int) ≤ I 34 2; omega)
  have kp := fRun_keep (cS I 64) (I 34 2).toNat
  rw [← hz] at gz kp
  have hn : sN z.1 = I 34 2 := by show z.1.1.1 = _; rw [kp.1]; rfl
  have hl : sL z.1 = I 34 0 := by show z.1.1.2.1 = _; rw [kp.1]; rfl
  have el : sLen z.1 (I 34 2).toNat = sLen z'.1 (I 34 2).toNat := sLen_ag ra _ (by rw [hn]; omega)
  rw [← rb, ← el] at h2
  rcases h1 with ⟨q, a, rfl, ⟨w1, w2, w3, w4, w5⟩, pj, f⟩ | ⟨q, a, K, k1, ⟨k66, k67, k68⟩, k0, hp, hW, hR⟩
  · rcases h2 with ⟨-, b, vj, v1, v2, v3, v4, v5, v6, v7⟩ | ⟨x, -⟩
    · have zc : 0 ≤ z.2.2 ∧ z.2.2 < I 34 2 := by
        have := kp.2.2.2.2.2.2
        omega
      rw [← sRea_ag ra (sLen z.1 (I 34 2).toNat) zc.1 (by rw [hn]; exact zc.2) (by omega) (by rw [hl]; have := hi.2.1.1.2.1; omega)] at v4 v5
      rw [← sTold_ag ra _ (sLen z.1 (I 34 2).toNat) zc.1 (by rw [hn]; exact zc.2) (by omega) (by rw [hl]; have := hi.2.1.1.2.1; omega)] at v5
      have gb : ∀ b : Nat, ¬ (65 ≤ b ∧ b ≤ 68) → b ≠ 94 → b ≠ 109 → b ≠ 110 → b ≠ 115 → b ≠ 122 → b ≠ 123 → b ≠ 126 → b < 135 → I2 b = I b := fun b c1 c2 c3 c4 c5 c6 c7 c8 c9 => (fr b c5 c6 c7 c8 (by omega) (by omega) (by omega) (by omega) (by omega)).trans (f b (by omega) (by omega) (by omega) (by omega) c2 c3 c4)
      have kc : kCh I I2 := fun b b0 b1 => gb b (by omega) (by omega) (by omega) (by omega) (by omega) (by omega) (by omega) (by omega) (by omega)
      have g1 : ∀ b : Nat, b < 115 → I2 b = I1 b := fun b hb => fr b (by omega) (by omega) (by omega) (by omega) (by omega) (by omega) (by omega) (by omega) (by omega)
      have gj : ∀ j : Int, j ≠ 18 → j ≠ 38 → I2 115 j = I 115 j := vj
      have g123 : I2 123 = I 123 := v7.trans (hI 123 (by omega))
      refine ⟨by omega, rho1, Inv_gen (fun b hb => gb b (by omega) (by omega) (by omega) (by omega) (by omega) (by omega) (by omega) (by omega) (by omega)) (fun j hj => gj j (by omega) (by omega)) ⟨fun c c0 c1 => ?_, iAh_ext kc (gb 69 (by omega) (by omega) (by omega) (by omega) (by omega) (by omega) (by omega) (by omega) (by omega)) hi.2.2.1.2⟩ (iHs_ext kc hi.2.1.1 (congrFun (gb 95 (by omega) (by omega) (by omega) (by omega) (by omega) (by omega) (by omega) (by omega) (by omega)) 1) (gj 12 (by omega) (by omega)) g123 (fun x x0 x1 => by
        have h9 := (s1.1 x x0 (by have := hi.2.2.2.1.2.1; omega)).2
        exact gb _ (by omega) (by omega) (by omega) (by omega) (by omega) (by omega) (by omega) (by omega) (by omega)) hi.2.2.2.1) (iHs_ext kc hi.2.1.1 (congrFun (gb 105 (by omega) (by omega) (by omega) (by omega) (by omega) (by omega) (by omega) (by omega) (by omega)) 1) (gj 16 (by omega) (by omega)) (gb 125 (by omega) (by omega) (by omega) (by omega) (by omega) (by omega) (by omega) (by omega) (by omega)) (fun x x0 x1 => by
        have h9 := (s2.1 x x0 (by have := hi.2.2.2.2.1.2.1; omega)).2
        exact gb _ (by omega) (by omega) (by omega) (by omega) (by omega) (by omega) (by omega) (by omega) (by omega)) hi.2.2.2.2.1) ⟨by rw [v1, g1 109 (by omega), w1], by rw [g1 109 (by omega), w1]; decide, fun i i0 i1 => ?_⟩ s1 s2 hi.2.2.2.2.2.2.2.2.2.2 hi⟩
      · rw [kc 34 (by omega) (by omega)] at c1
        have px := hi.2.2.1.1 c c0 c1
        obtain ⟨j1, j2, j3, j4⟩ := pj c c0 (by omega)
        rw [g1 65 (by omega), g1 66 (by omega), g1 67 (by omega), g1 68 (by omega), j1, j2, j3, j4, v6 c c0 (by omega), v6 (6 + c) (by omega) (by omega), v6 (12 + c) (by omega) (by omega), hI 122 (by omega)]
        exact ⟨rOk_ext kc c0 (by omega) px.1, px.2⟩
      · rw [g1 109 (by omega), w1] at i1
        rw [g1 110 (by omega)]
        rcases (show i = 0 ∨ i = 1 ∨ i = 2 ∨ i = 3 by omega) with rfl | rfl | rfl | rfl
        · rw [v2, w2]
        · rw [v3, w3]
        · rw [v4, w4]
        · rw [v5, w5]
    · exact absurd x q
  · rcases h2 with ⟨x, -⟩ | ⟨-, b, nt, v126, vc⟩
    · exact absurd q x
    · obtain ⟨n1, n2, n3, n4⟩ := nt
      obtain ⟨rp, p1, p2, p3, p4, p5⟩ := hp
      have kz : ∀ b : Nat, ¬ (66 ≤ b ∧ b ≤ 68) → K b = zwr I 64 94 b := fun b hb => k1 b (by omega) (by omega) (by omega)
      obtain ⟨Kx, hKx⟩ : ∃ Kx : zMem, Kx = fun b => if 66 ≤ b ∧ b ≤ 68 then I b else I1 b := ⟨_, rfl⟩
      have x0 : ∀ b : Nat, 66 ≤ b ∧ b ≤ 68 → Kx b = I b := fun b hb => by rw [hKx]; exact if_pos hb
      have x1 : ∀ b : Nat, ¬ (66 ≤ b ∧ b ≤ 68) → Kx b = I1 b := fun b hb => by rw [hKx]; exact if_neg hb
      have hh := hi.2.2.2.1.2.1
      have z95 : K 95 1 = I 95 1 := by rw [kz 95 (by omega), zwr_na (by decide)]
      have w95 : zwr I 64 94 95 1 = I 95 1 := by rw [zwr_na (by decide)]
      rw [z95] at p2 p3 p4
      generalize ht : (if I 95 1 < ((8 : Nat) : Int) then I 95 1 else ((8 : Nat) : Int) - 1) = t at p2 p3 p4
      have tb : 0 ≤ t ∧ t < 8 := by rw [← ht]; split <;> omega
      have hr : cRem I Kx R R1 rho1 143 := ⟨⟨rp, p1, by rw [w95, ht, x1 95 (by omega)]; exact p2, fun k j k0 k1 => by
        rw [w95, ht] at k1
        have h9 := (p1.1 k k0 (by omega)).2
        rw [x1 _ (by omega), p3 k j k0 k1, w95]
        have h8 : ∀ y : Int, 0 ≤ y → y < 8 → K (rho1 y) = zwr I 64 94 (rho1 y) := fun y y0 y1 => kz _ (by have := (s1.1 y y0 (by omega)).2; omega)
        by_cases ee : I 95 1 < ((8 : Nat) : Int)
        · rw [if_pos ee, h8 k k0 (by omega)]
        · rw [if_neg ee] at ht
          rw [if_neg ee, h8 (k + 1) (by omega) (by omega)], fun j j0 j1 => by
        rw [w95, ht]
        have h9 := (p1.1 t tb.1 (by omega)).2
        rw [x1 _ (by omega), p4 j j0 j1, kz 94 (by omega)], fun b hb => by
        by_cases y : 66 ≤ b ∧ b ≤ 68
        · rw [x0 b y, zwr_na (by omega)]
        · rw [x1 b y, p5 b hb, kz b y]⟩, hW, hR⟩
      have g1 : ∀ b : Nat, b < 115 → I2 b = I1 b := fun b hb => fr b (by omega) (by omega) (by omega) (by omega) (by omega) (by omega) (by omega) (by omega) (by omega)
      have gI : ∀ b : Nat, b < 94 → ¬ (66 ≤ b ∧ b ≤ 68) → I2 b = I b := fun b hb hb2 => by rw [g1 b (by omega), p5 b (by omega), kz b hb2, zwr_na (by omega)]
      have kc : kCh I I2 := fun b b0 b1 => gI b (by omega) (by omega)
      refine ⟨by omega, Inv_act (I2 := I2) hi hr (fun b hb => (x1 b (by omega)).symm) ⟨n1, fun j j1 j2 j3 => n2 j j1 j3, n3, n4⟩ g1 (fun b b0 b1 b3 b4 => ?_) ⟨fun c c0 c1 => ?_, iAh_ext kc (gI 69 (by omega) (by omega)) hi.2.2.1.2⟩⟩
      · by_cases y : b = 126
        · rw [y]; exact v126
        · exact fr b (by omega) b3 b4 y (by omega) (by omega) (by omega) (by omega) (by omega)
      · rw [kc 34 (by omega) (by omega)] at c1
        have px := hi.2.2.1.1 c c0 c1
        obtain ⟨m1, m2, m3, m4⟩ := vc c c0 c1
        obtain ⟨b1, b2, b3, b4, b5⟩ := ra.2.2.2 c c0 (by rw [hn]; exact c1)
        have gg := gz.2.2.2 c c0 (by rw [hn]; exact c1)
        have o66 : I2 66 = sW z.1 := by rw [g1 66 (by omega), p5 66 (by omega), k66]
        have o67 : I2 67 = sF z.1 := by rw [g1 67 (by omega), p5 67 (by omega), k67]
        have o68 : I2 68 = sU z.1 := by rw [g1 68 (by omega), p5 68 (by omega), k68]
        have kk := k0 c c0 c1
        rw [k66, k67, k68] at kk
        have eT : sT z.1 c (sW z.1 c) = tkOf (I 65 c) (I 36 c) (I (49 + c.toNat) (sW z.1 c)) := by
          rw [kp.2.2.1, cS_T ⟨c0, by omega⟩]
        rw [gI 65 (by omega) (by omega), o66, o67, o68, m1, m2, hI 122 (by omega), ← b4]
        rw [← b4] at m3 m4
        rw [hl] at gg
        refine ⟨rOk_ext kc c0 (by omega) ⟨px.1.1, gg.2.2.2.1, fun y => kk y, fun y => ⟨(gg.2.2.2.2 y).1, by rw [(gg.2.2.2.2 y).2, eT]⟩⟩, px.2.1, rfl, ?_⟩
        by_cases y : 0 < sW z.1 c
        · rw [m3 y, (b5 y).1]
        · rw [m4 y, (kk y).1]
end ZF9
