/-! call by call: acts that are remembered -/
section ZF6
variable {I J K Z I1 I2 : zMem} {R R1 : zRef} {rho rho1 rho2 rho1' rho2' : Int → Nat}
theorem zShf_ext {o m : Nat} (h : R1 (o + 1) = R (o + 1)) (hs : zShf o m R rho) : zShf o m R1 rho := by
  unfold zShf at hs ⊢
  rw [h]
  exact hs
theorem Inv_act (hi : Inv I R rho1 rho2) (hr : cRem I K R R1 rho1 143) (hc : ∀ b : Nat, ¬ (65 ≤ b ∧ b ≤ 68) → I1 b = K b) (n1 : I2 115 12 = (if I1 115 12 < 8 then I1 115 12 else 7) + 1 ∧ (∀ j : Int, j ≠ 12 → j ≠ 37 → j ≠ 38 → I2 115 j = I1 115 j) ∧
    (∀ k j : Int, 0 ≤ k → k < (if I1 115 12 < 8 then I1 115 12 else 7) → 0 ≤ j → j < 18 → I2 123 (18 * k + j) = I1 123 (18 * (if I1 115 12 < 8 then k else k + 1) + j)) ∧ (∀ j : Int, 0 ≤ j → j < 18 → I2 123 (18 * (if I1 115 12 < 8 then I1 115 12 else 7) + j) = I1 122 j)) (h2 : ∀ b : Nat, b < 115 → I2 b = I1 b) (h2m : ∀ b : Nat, 116 ≤ b → b ≤ 127 → b ≠ 122 → b ≠ 123 → I2 b = I1 b) (hpl : iPl I2) : ∃ rho1' : Int → Nat, Inv I2 R1 rho1' rho2 := by
  obtain ⟨hp, hW, hR⟩ := hr
  obtain ⟨n1, n2, n3, n4⟩ := n1
  have kb : ∀ b : Nat, (b < 95 ∨ 105 ≤ b) → b ≠ 94 → K b = I b := fun b b1 b2 => by
    obtain ⟨_, _, _, _, _, p5⟩ := hp
    rw [p5 b (by omega), zwr_na b2]
  have k1 : ∀ b : Nat, ¬ (65 ≤ b ∧ b ≤ 68) → (b < 95 ∨ 105 ≤ b) → b ≠ 94 → I1 b = I b := fun b c1 c2 c3 => (hc b c1).trans (kb b c2 c3)
  have e115 : I1 115 = I 115 := k1 115 (by omega) (by omega) (by omega)
  have e122 : I1 122 = I 122 := k1 122 (by omega) (by omega) (by omega)
  have e123 : I1 123 = I 123 := k1 123 (by omega) (by omega) (by omega)
  rw [e115] at n1 n2 n3 n4
  rw [e122] at n4
  rw [e123] at n3
  have g2 : ∀ b : Nat, ¬ (65 ≤ b ∧ b ≤ 68) → (b < 95 ∨ (105 ≤ b ∧ b < 115)) → b ≠ 94 → I2 b = I b := fun b c1 c2 c3 => (h2 b (by omega)).trans (k1 b c1 (by omega) c3)
  have gm : ∀ b : Nat, 116 ≤ b → b ≤ 127 → b ≠ 122 → b ≠ 123 → I2 b = I b := fun b c1 c2 c3 c4 => (h2m b c1 c2 c3 c4).trans (k1 b (by omega) (by omega) (by omega))
  have kc : kCh I I2 := fun b b0 b1 => g2 b (by omega) (by omega) (by omega)
  have s1 := hi.2.2.2.2.2.2.2.2.1
  have s2 := hi.2.2.2.2.2.2.2.2.2.1
  have hh := hi.2.2.2.1
  obtain ⟨rho1', q1, q2⟩ := iHs_push (J := I2) (cap := 8) (m := 123) hi.2.1.1 (by omega) kc hh hp (by rw [zwr_na (by decide)]) (fun q q0 q1 => zwr_na (by have := (s1.1 q q0 (by have := hh.2.1; omega)).2; omega)) (by rw [h2 95 (by decide), hc 95 (by omega)]) (fun b b0 b1 => by rw [h2 b (by omega), hc b (by omega)]) n1 n3 (fun c c0 c1 => by
    have n6 := hi.2.1.1.1
    have w := iRow hi c0 c1
    exact ⟨w.1, (n4 c c0 (by omega)).trans w.2.1, (n4 (6 + c) (by omega) (by omega)).trans w.2.2.1, (n4 (12 + c) (by omega) (by omega)).trans w.2.2.2⟩)
  exact ⟨rho1', Inv_gen (fun b hb => by
    by_cases q : b < 115
    · exact g2 b (by omega) (by omega) (by omega)
    · exact gm b (by omega) (by omega) (by omega) (by omega)) (fun j hj => n2 j (by omega) (by omega) (by omega)) hpl q2 (iHs_ext kc hi.2.1.1 (congrFun (g2 105 (by omega) (by omega) (by omega)) 1) (n2 16 (by decide) (by decide) (by decide)) (gm 125 (by omega) (by omega) (by omega) (by omega)) (fun q q0 q1 => by
      have h9 := (s2.1 q q0 (by have := hi.2.2.2.2.1.2.1; omega)).2
      exact g2 _ (by omega) (by omega) (by omega)) hi.2.2.2.2.1) (iWh_ext (g2 109 (by omega) (by omega) (by omega)) (g2 110 (by omega) (by omega) (by omega)) (gm 126 (by omega) (by omega) (by omega) (by omega)) (n2 18 (by decide) (by decide) (by decide)) hi.2.2.2.2.2.1) q1 (zShf_ext (hR 106 (by decide)) s2) hW hi⟩
theorem f_keep {r1 r2 : Int} (hi : Inv I R rho1 rho2) (h1 : (I 105 1 = 2 ∧ r1 = -3 ∧ I1 = I ∧ R1 = R) ∨ (I 105 1 < 2 ∧ r1 = I 105 1 + 1 ∧ zPush 105 2 (zwr I 64 94) I1 R1 rho2 94 ∧ zWir 143 R1 ∧ ∀ b : Nat, b ≠ 106 → R1 b = R b))
    (h2 : (I1 115 16 = 2 ∧ r2 = -3 ∧ I2 = I1) ∨ (I1 115 16 < 2 ∧ r2 = I1 115 16 + 1 ∧ I2 115 16 = I1 115 16 + 1 ∧ (∀ j : Int, j ≠ 16 → I2 115 j = I1 115 j) ∧ (∀ j : Int, 0 ≤ j → j < 18 → I2 125 (18 * I1 115 16 + j) = I1 122 j) ∧ (∀ j : Int, j < 18 * I1 115 16 → I2 125 j = I1 125 j) ∧ ∀ b : Nat, b ≠ 115 → b ≠ 125 → I2 b = I1 b)) : r1 = r2 ∧ ∃ rho2' : Int → Nat, Inv I2 R1 rho1 rho2' := by
  have hs := hi.2.2.2.2.1
  obtain ⟨u1, u2, u3⟩ := id hs
  rcases h1 with ⟨a0, a1, rfl, rfl⟩ | ⟨a0, a1, hp, hW, hR⟩
  · rcases h2 with ⟨-, b1, rfl⟩ | ⟨b0, -⟩
    · exact ⟨by omega, rho2, hi⟩
    · omega
  · have s1 := hi.2.2.2.2.2.2.2.2.1
    have s2 := hi.2.2.2.2.2.2.2.2.2.1
    have k1 : ∀ b : Nat, (b < 105 ∨ 109 ≤ b) → b ≠ 94 → I1 b = I b := fun b b1 b2 => by
      obtain ⟨_, _, _, _, _, p5⟩ := id hp
      rw [p5 b (by omega), zwr_na b2]
    have e115 : I1 115 = I 115 := k1 115 (by omega) (by omega)
    have e122 : I1 122 = I 122 := k1 122 (by omega) (by omega)
    have e125 : I1 125 = I 125 := k1 125 (by omega) (by omega)
    rw [e115, e122, e125, u1] at h2
    rcases h2 with ⟨b0, -⟩ | ⟨b0, b1, b2, b3, b4, b5, b6⟩
    · omega
    · have gb : ∀ b : Nat, (b < 105 ∨ 109 ≤ b) → b ≠ 94 → b ≠ 115 → b ≠ 125 → I2 b = I b := fun b c1 c2 c3 c4 => (b6 b c3 c4).trans (k1 b c1 c2)
      have kc : kCh I I2 := fun b b0 b1 => gb b (by omega) (by omega) (by omega) (by omega)
      have et : (if I 115 16 < ((2 : Nat) : Int) then I 115 16 else ((2 : Nat) : Int) - 1) = I 105 1 := by rw [if_pos (by omega), u1]
      obtain ⟨rho2', q1, q2⟩ := iHs_push (J := I2) (cap := 2) (m := 125) hi.2.1.1 (by omega) kc hs hp (by rw [zwr_na (by decide)]) (fun q q0 q1 => zwr_na (by have := (s2.1 q q0 (by omega)).2; omega)) (by rw [b6 105 (by decide) (by decide)]) (fun b b0 b1 => b6 b (by omega) (by omega)) (by rw [et]; exact b2) (fun k j k0 k1 j0 j1 => by
        rw [et] at k1
        rw [if_pos (by omega)]
        exact b5 _ (by omega)) (fun c c0 c1 => by
        have n6 := hi.2.1.1.1
        have w := iRow hi c0 c1
        rw [et]
        exact ⟨w.1, (b4 c c0 (by omega)).trans w.2.1, (b4 (6 + c) (by omega) (by omega)).trans w.2.2.1, (b4 (12 + c) (by omega) (by omega)).trans w.2.2.2⟩)
      exact ⟨by omega, rho2', Inv_gen (fun b hb => gb b (by omega) (by omega) (by omega) (by omega)) (fun j hj => b3 j (by omega)) (iPl_ext kc hi.2.1.1 (fun b b0 b1 => gb b (by omega) (by omega) (by omega) (by omega)) (gb 122 (by omega) (by omega) (by omega) (by omega)) hi.2.2.1) (iHs_ext kc hi.2.1.1 (congrFun (gb 95 (by omega) (by omega) (by omega) (by omega)) 1) (b3 12 (by decide)) (gb 123 (by omega) (by omega) (by omega) (by omega)) (fun q q0 q1 => by
        have h9 := (s1.1 q q0 (by have := hi.2.2.2.1.2.1; omega)).2
        exact gb _ (by omega) (by omega) (by omega) (by omega)) hi.2.2.2.1) q2 (iWh_ext (gb 109 (by omega) (by omega) (by omega) (by omega)) (gb 110 (by omega) (by omega) (by omega) (by omega)) (gb 126 (by omega) (by omega) (by omega) (by omega)) (b3 18 (by decide)) hi.2.2.2.2.2.1) (zShf_ext (hR 96 (by decide)) s1) q1 hW hi⟩
end ZF6
