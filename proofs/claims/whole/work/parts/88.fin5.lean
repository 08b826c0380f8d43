/-! call by call: the history and the shelf -/
section ZF5
variable {I J K Z I1 I2 : zMem} {R R1 : zRef} {rho rho1 rho2 rho1' rho2' : Int → Nat}
theorem Inv_gen (hb : ∀ b : Nat, b = 1 ∨ b = 2 ∨ (34 ≤ b ∧ b ≤ 61) ∨ b = 69 ∨ (75 ≤ b ∧ b ≤ 85) ∨ (111 ≤ b ∧ b ≤ 114) ∨ (116 ≤ b ∧ b ≤ 121) ∨ b = 124 ∨ b = 127 → J b = I b) (hj : ∀ j : Int, (0 ≤ j ∧ j < 4) ∨ j = 14 ∨ j = 20 → J 115 j = I 115 j) (hpl : iPl J) (hhs : iHs J 95 123 12 8 rho1') (hsh : iHs J 105 125 16 2 rho2') (hwh : iWh J) (s1 : zShf 95 8 R1 rho1') (s2 : zShf 105 2 R1 rho2') (hW : zWir 143 R1) (hi : Inv I R rho1 rho2) : Inv J R1 rho1' rho2' := by
  obtain ⟨i1, i2, i3, i4, i5, i6, i7, i8, i9, i10, i11⟩ := hi
  have kc : kCh I J := fun b b0 b1 => hb b (by omega)
  exact ⟨iTx_ext (hb 1 (by omega)) (hb 2 (by omega)) (hb 127 (by omega)) (hj 20 (by omega)) i1, iCh_ext kc (fun b b0 b1 => hb b (by omega)) (fun j j0 j1 => hj j (by omega)) i2, hpl, hhs, hsh, hwh, iSe_ext (hb 34 (by omega)) (hb 111 (by omega)) (hb 112 (by omega)) (hb 113 (by omega)) (hb 114 (by omega)) (hb 124 (by omega)) (hj 14 (by omega)) i7, zCache_ext (fun _ _ _ _ h => bB_ext kc i2.1 h) (hb 34 (by omega)) (fun b b0 b1 => hb b (by omega)) i8, s1, s2, hW⟩
theorem iHs_push {o m cap : Nat} {jx : Int} (hz : zCh I) (hcap : 1 ≤ cap) (kc : kCh I J) (hi : iHs I o m jx cap rho) (hp : zPush o cap Z I1 R1 rho 94) (hZo : Z o 1 = I o 1) (hZr : ∀ q : Int, 0 ≤ q → q < I o 1 → Z (rho q) = I (rho q)) (hJo : J o 1 = I1 o 1) (hJr : ∀ b : Nat, o + 2 ≤ b → b < o + 2 + cap → J b = I1 b) (m1 : J 115 jx = (if I 115 jx < cap then I 115 jx else (cap : Int) - 1) + 1)
    (m2 : ∀ k j : Int, 0 ≤ k → k < (if I 115 jx < cap then I 115 jx else (cap : Int) - 1) → 0 ≤ j → j < 18 → J m (18 * k + j) = I m (18 * (if I 115 jx < cap then k else k + 1) + j))
    (m3 : ∀ c : Int, 0 ≤ c → c < I 34 2 → rOk I c (Z 94 c) (Z 94 (6 + c)) (Z 94 (12 + c)) (Z 94 (18 + c)) ∧ J m (18 * (if I 115 jx < cap then I 115 jx else (cap : Int) - 1) + c) = Z 94 c ∧ J m (18 * (if I 115 jx < cap then I 115 jx else (cap : Int) - 1) + (6 + c)) = Z 94 (6 + c) ∧ J m (18 * (if I 115 jx < cap then I 115 jx else (cap : Int) - 1) + (12 + c)) = Z 94 (12 + c)) : ∃ rho' : Int → Nat, zShf o cap R1 rho' ∧ iHs J o m jx cap rho' := by
  have n6 := hz.1
  obtain ⟨h1, h2, h3⟩ := hi
  obtain ⟨rho', p1, p2, p3, p4, p5⟩ := hp
  rw [hZo] at p2 p3 p4
  rw [h1] at m1 m2 m3
  generalize ht : (if I o 1 < (cap : Int) then I o 1 else (cap : Int) - 1) = t at *
  have tb : 0 ≤ t ∧ t < cap ∧ t ≤ I o 1 ∧ (I o 1 < cap → t = I o 1) ∧ (¬ I o 1 < cap → t + 1 = I o 1) := by
    rw [← ht]
    split <;> omega
  refine ⟨rho', p1, by rw [m1, hJo, p2], by rw [hJo, p2]; omega, fun q q0 q1 => ?_⟩
  rw [hJo, p2] at q1
  have hr := p1.1 q q0 (by omega)
  by_cases e : q = t
  · intro c c0 c1
    rw [kc 34 (by omega) (by omega)] at c1
    have g := m3 c c0 c1
    rw [hJr _ hr.2.1 hr.2.2, e, p4 c c0 (by omega), p4 (6 + c) (by omega) (by omega), p4 (12 + c) (by omega) (by omega), p4 (18 + c) (by omega) (by omega)]
    exact ⟨rOk_ext kc c0 (by omega) g.1, g.2⟩
  · have qt : q < t := by omega
    by_cases ec : I o 1 < (cap : Int)
    · refine iRw_ext (q := q) kc hz (fun j j0 j1 => ?_) (fun j j0 j1 => ?_) (h3 q q0 (by omega))
      · rw [hJr _ hr.2.1 hr.2.2, p3 q j q0 qt, if_pos ec, hZr q q0 (by omega)]
      · rw [m2 q j q0 qt j0 j1, if_pos ec]
    · refine iRw_ext (q := q + 1) kc hz (fun j j0 j1 => ?_) (fun j j0 j1 => ?_) (h3 (q + 1) (by omega) (by omega))
      · rw [hJr _ hr.2.1 hr.2.2, p3 q j q0 qt, if_neg ec, hZr (q + 1) (by omega) (by omega)]
      · rw [m2 q j q0 qt j0 j1, if_neg ec]
/-- the row that the class writes is the plan -/
theorem iRow (hi : Inv I R rho1 rho2) {c : Int} (c0 : 0 ≤ c) (c1 : c < I 34 2) : rOk I c (zwr I 64 94 94 c) (zwr I 64 94 94 (6 + c)) (zwr I 64 94 94 (12 + c)) (zwr I 64 94 94 (18 + c)) ∧ I 122 c = zwr I 64 94 94 c ∧ I 122 (6 + c) = zwr I 64 94 94 (6 + c) ∧ I 122 (12 + c) = zwr I 64 94 94 (12 + c) := by
  have n6 := hi.2.1.1.1
  obtain ⟨w1, w2, w3, w4⟩ := zwr_at (I := I) (p := 64) (r := 94) (fun k _ _ => by omega) c0 (show c < 6 by omega)
  rw [w1, w2, w3, w4]
  exact hi.2.2.1.1 c c0 c1
/-- a saved row taken back is a plan -/
theorem iPl_back {r m : Nat} {q : Int} (hi : Inv I R rho1 rho2) (kc : kCh I J) (h9 : J 69 = I 69) (hr : iRw I r m q) (hc : ∀ j : Int, 0 ≤ j → j < 6 → J 65 j = I r j ∧ J 66 j = I r (6 + j) ∧ J 67 j = I r (12 + j) ∧ J 68 j = I r (18 + j)) (hm : ∀ j : Int, 0 ≤ j → j < 18 → J 122 j = I m (18 * q + j)) : iPl J := by
  have n6 := hi.2.1.1.1
  refine ⟨fun c c0 c1 => ?_, iAh_ext kc h9 hi.2.2.1.2⟩
  rw [kc 34 (by omega) (by omega)] at c1
  have g := hr c c0 c1
  obtain ⟨k1, k2, k3, k4⟩ := hc c c0 (by omega)
  rw [k1, k2, k3, k4, hm c c0 (by omega), hm (6 + c) (by omega) (by omega), hm (12 + c) (by omega) (by omega)]
  exact ⟨rOk_ext kc c0 (by omega) g.1, g.2⟩
theorem f_undo {r1 r2 : Int} (hi : Inv I R rho1 rho2) (h1 : (I 95 1 < 1 ∧ r1 = -2 ∧ I1 = I) ∨ (1 ≤ I 95 1 ∧ r1 = I 95 1 - 1 ∧ I1 = zrd (zu I 95 1 (I 95 1 - 1)) 64 (rho1 (I 95 1 - 1))))
    (h2 : (I1 115 12 = 0 ∧ r2 = -2 ∧ I2 = I1) ∨ (1 ≤ I1 115 12 ∧ r2 = I1 115 12 - 1 ∧ I2 115 12 = I1 115 12 - 1 ∧ (∀ j : Int, j ≠ 12 → I2 115 j = I1 115 j) ∧ (∀ j : Int, 0 ≤ j → j < 18 → I2 122 j = I1 123 (18 * (I1 115 12 - 1) + j)) ∧ ∀ b : Nat, b ≠ 115 → b ≠ 122 → I2 b = I1 b)) : r1 = r2 ∧ Inv I2 R rho1 rho2 := by
  obtain ⟨u1, u2, u3⟩ := hi.2.2.2.1
  rcases h1 with ⟨a0, a1, rfl⟩ | ⟨a0, a1, a2⟩
  · rcases h2 with ⟨-, b1, rfl⟩ | ⟨b0, -⟩
    · exact ⟨by omega, hi⟩
    · omega
  · generalize hh : I 95 1 = h at *
    have s1 := hi.2.2.2.2.2.2.2.2.1
    have hr := (s1.1 (h - 1) (by omega) (by omega)).2
    have f : ∀ b : Nat, b ≠ 65 → b ≠ 66 → b ≠ 67 → b ≠ 68 → b ≠ 95 → I1 b = I b := fun b c1 c2 c3 c4 c5 => by rw [a2, zrd_na c1 c2 c3 c4, zu_ne c5]
    have e115 : I1 115 = I 115 := f 115 (by decide) (by decide) (by decide) (by decide) (by decide)
    have e123 : I1 123 = I 123 := f 123 (by decide) (by decide) (by decide) (by decide) (by decide)
    rw [e115, u1, e123] at h2
    rcases h2 with ⟨b0, -⟩ | ⟨b0, b1, b2, b3, b4, b5⟩
    · omega
    · have g : ∀ b : Nat, b ≠ 65 → b ≠ 66 → b ≠ 67 → b ≠ 68 → b ≠ 95 → b ≠ 115 → b ≠ 122 → I2 b = I b := fun b c1 c2 c3 c4 c5 c6 c7 => (b5 b c6 c7).trans (f b c1 c2 c3 c4 c5)
      have gb : ∀ b : Nat, ¬ (65 ≤ b ∧ b ≤ 68) ∧ b ≠ 95 ∧ b ≠ 115 ∧ b ≠ 122 → I2 b = I b := fun b c => g b (by omega) (by omega) (by omega) (by omega) (by omega) (by omega) (by omega)
      have kc : kCh I I2 := fun b _ _ => gb b (by omega)
      have o95 : I2 95 1 = h - 1 := by rw [b5 95 (by decide) (by decide), a2, zrd_na (by decide) (by decide) (by decide) (by decide), zu_eq]
      refine ⟨by omega, Inv_gen (fun b hb => gb b (by omega)) (fun j hj => b3 j (by omega)) (iPl_back hi kc (gb 69 (by omega)) (u3 (h - 1) (by omega) (by omega)) (fun j j0 j1 => ?_) b4) ⟨by rw [b2, o95], by rw [o95]; omega, fun q q0 q1 => ?_⟩ (iHs_ext kc hi.2.1.1 (congrFun (gb 105 (by omega)) 1) (b3 16 (by decide)) (gb 125 (by omega)) (fun q q0 q1 => gb _ (by have := (hi.2.2.2.2.2.2.2.2.2.1.1 q q0 (by have := hi.2.2.2.2.1.2.1; omega)).2; omega)) hi.2.2.2.2.1) (iWh_ext (gb 109 (by omega)) (gb 110 (by omega)) (gb 126 (by omega)) (b3 18 (by decide)) hi.2.2.2.2.2.1) s1 hi.2.2.2.2.2.2.2.2.2.1 hi.2.2.2.2.2.2.2.2.2.2 hi⟩
      · have z := zrd_at (I := zu I 95 1 (h - 1)) (p := 64) (r := rho1 (h - 1)) (fun k _ _ => by omega) j0 j1
        rw [zu_ne (show rho1 (h - 1) ≠ 95 by omega), ← a2] at z
        rw [b5 65 (by decide) (by decide), b5 66 (by decide) (by decide), b5 67 (by decide) (by decide), b5 68 (by decide) (by decide)]
        exact z
      · rw [o95] at q1
        have hq := (s1.1 q q0 (by omega)).2
        exact iRw_ext kc hi.2.1.1 (fun j _ _ => by rw [gb (rho1 q) (by omega)]) (fun j _ _ => by rw [gb 123 (by omega)]) (u3 q q0 (by omega))
theorem f_back {r1 r2 : Int} (hi : Inv I R rho1 rho2) (h1 : (I 105 1 < 1 ∧ r1 = -2 ∧ I1 = I) ∨ (1 ≤ I 105 1 ∧ r1 = I 105 1 - 1 ∧ I1 = zu (zrd (zu I 105 1 (I 105 1 - 1)) 64 (rho2 (I 105 1 - 1))) 95 1 0))
    (h2 : (I1 115 16 = 0 ∧ r2 = -2 ∧ I2 = I1) ∨ (1 ≤ I1 115 16 ∧ r2 = I1 115 16 - 1 ∧ I2 115 16 = I1 115 16 - 1 ∧ I2 115 12 = 0 ∧ (∀ j : Int, j ≠ 16 → j ≠ 12 → I2 115 j = I1 115 j) ∧ (∀ j : Int, 0 ≤ j → j < 18 → I2 122 j = I1 125 (18 * (I1 115 16 - 1) + j)) ∧ ∀ b : Nat, b ≠ 115 → b ≠ 122 → I2 b = I1 b)) : r1 = r2 ∧ Inv I2 R rho1 rho2 := by
  obtain ⟨u1, u2, u3⟩ := hi.2.2.2.2.1
  rcases h1 with ⟨a0, a1, rfl⟩ | ⟨a0, a1, a2⟩
  · rcases h2 with ⟨-, b1, rfl⟩ | ⟨b0, -⟩
    · exact ⟨by omega, hi⟩
    · omega
  · generalize hh : I 105 1 = h at *
    have s2 := hi.2.2.2.2.2.2.2.2.2.1
    have hr := (s2.1 (h - 1) (by omega) (by omega)).2
    have f : ∀ b : Nat, b ≠ 65 → b ≠ 66 → b ≠ 67 → b ≠ 68 → b ≠ 95 → b ≠ 105 → I1 b = I b := fun b c1 c2 c3 c4 c5 c6 => by rw [a2, zu_ne c5, zrd_na c1 c2 c3 c4, zu_ne c6]
    have e115 : I1 115 = I 115 := f 115 (by decide) (by decide) (by decide) (by decide) (by decide) (by decide)
    have e125 : I1 125 = I 125 := f 125 (by decide) (by decide) (by decide) (by decide) (by decide) (by decide)
    rw [e115, u1, e125] at h2
    rcases h2 with ⟨b0, -⟩ | ⟨b0, b1, b2, b2b, b3, b4, b5⟩
    · omega
    · have gb : ∀ b : Nat, ¬ (65 ≤ b ∧ b ≤ 68) ∧ b ≠ 95 ∧ b ≠ 105 ∧ b ≠ 115 ∧ b ≠ 122 → I2 b = I b := fun b c => (b5 b (by omega) (by omega)).trans (f b (by omega) (by omega) (by omega) (by omega) (by omega) (by omega))
      have kc : kCh I I2 := fun b _ _ => gb b (by omega)
      have o105 : I2 105 1 = h - 1 := by rw [b5 105 (by decide) (by decide), a2, zu_ne (by decide), zrd_na (by decide) (by decide) (by decide) (by decide), zu_eq]
      have o95 : I2 95 1 = 0 := by rw [b5 95 (by decide) (by decide), a2, zu_eq]
      refine ⟨by omega, Inv_gen (fun b hb => gb b (by omega)) (fun j hj => b3 j (by omega) (by omega)) (iPl_back hi kc (gb 69 (by omega)) (u3 (h - 1) (by omega) (by omega)) (fun j j0 j1 => ?_) b4) ⟨by rw [b2b, o95], by rw [o95]; omega, fun q q0 q1 => ?_⟩ ⟨by rw [b2, o105], by rw [o105]; omega, fun q q0 q1 => ?_⟩ (iWh_ext (gb 109 (by omega)) (gb 110 (by omega)) (gb 126 (by omega)) (b3 18 (by decide) (by decide)) hi.2.2.2.2.2.1) hi.2.2.2.2.2.2.2.2.1 s2 hi.2.2.2.2.2.2.2.2.2.2 hi⟩
      · have z := zrd_at (I := zu I 105 1 (h - 1)) (p := 64) (r := rho2 (h - 1)) (fun k _ _ => by omega) j0 j1
        rw [zu_ne (show rho2 (h - 1) ≠ 105 by omega)] at z
        rw [b5 65 (by decide) (by decide), b5 66 (by decide) (by decide), b5 67 (by decide) (by decide), b5 68 (by decide) (by decide), a2, zu_ne (by decide), zu_ne (by decide), zu_ne (by decide), zu_ne (by decide)]
        exact z
      · rw [o95] at q1
        omega
      · rw [o105] at q1
        have hq := (s2.1 q q0 (by omega)).2
        exact iRw_ext kc hi.2.1.1 (fun j _ _ => by rw [gb (rho2 q) (by omega)]) (fun j _ _ => by rw [gb 125 (by omega)]) (u3 q q0 (by omega))
end ZF5
