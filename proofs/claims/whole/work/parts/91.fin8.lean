/-! call by call: put -/
section ZF8
variable {I J K Z I1 I2 : zMem} {R R1 : zRef} {rho rho1 rho2 rho1' rho2' : Int → Nat}
/-- a cause told by both: the reference's scratch apart -/
theorem Inv_cause (s : mSt I1 K) (hI : ∀ b : Nat, b ≠ 109 → b ≠ 110 → I1 b = I b) (h2 : ∀ b : Nat, b ≠ 115 → b ≠ 126 → b < 138 → I2 b = K b) (h2b : ∀ b : Nat, b < 115 → I2 b = I1 b) (hj : ∀ j : Int, j ≠ 18 → j ≠ 37 → j ≠ 38 → I2 115 j = I1 115 j) (hw : iWh I2) (hi : Inv I R rho1 rho2) : Inv I2 R rho1 rho2 := by
  obtain ⟨M, hM⟩ : ∃ M : zMem, M = fun b => if b < 128 then I b else I2 b := ⟨_, rfl⟩
  have e0 : ∀ b : Nat, b < 128 → M b = I b := fun b hb => by rw [hM]; exact if_pos hb
  have e1 : ∀ b : Nat, 128 ≤ b → M b = I2 b := fun b hb => by rw [hM]; exact if_neg (by omega)
  have him : Inv M R rho1 rho2 := Inv_kc ⟨fun b hb => e0 b (by omega), fun j _ => congrFun (e0 115 (by omega)) j⟩ (fun b b0 b1 => e0 b (by omega)) hi
  refine Inv_wh (fun b b1 b2 b3 b4 => ?_) (fun j j1 j2 j3 => ?_) hw him
  · by_cases q : b < 128
    · rw [e0 b q, h2 b b4 b3 (by omega), s b (by omega) (by omega) (by omega), hI b b1 b2]
    · rw [e1 b (by omega)]
  · rw [e0 115 (by omega), hj j j1 j2 j3, hI 115 (by omega) (by omega)]
theorem f_put {c w t r1 r2 : Int} (hi : Inv I R rho1 rho2) (h1 : cPutP I R rho1 143 c w t r1 I1 R1) (h2 : mPutP I1 c w t r2 I2) : r1 = r2 ∧ ∃ rho1' : Int → Nat, Inv I2 R1 rho1' rho2 := by
  have e2 := hi.2.1.2.2.1.2.2.1
  have e0 := hi.2.1.2.2.1.1
  unfold cPutP at h1
  unfold mPutP at h2
  rcases h1 with ⟨q, a, rfl, rfl⟩ | ⟨q, ⟨q2, a, rfl, rfl⟩ | ⟨q2, q3, a, ⟨w1, w2, w3, w4, hI⟩, rfl⟩ | ⟨q2, q3, K, hr, a2, a⟩⟩
  · rw [e2, e0] at h2
    rcases h2 with ⟨-, b, rfl⟩ | ⟨z, -⟩
    · exact ⟨by omega, rho1, hi⟩
    · exact absurd z q
  · have p := hi.2.2.1.1 c q.1.1 q.1.2
    rw [e2, e0, p.2.2.1] at h2
    rcases h2 with ⟨z, -⟩ | ⟨-, ⟨-, b, rfl⟩ | ⟨z, -⟩⟩
    · exact absurd q z
    · exact ⟨by omega, rho1, hi⟩
    · exact absurd q2 z
  · have p := hi.2.2.1.1 c q.1.1 q.1.2
    have e115 : I1 115 = I 115 := hI 115 (by decide) (by decide)
    have e122 : I1 122 = I 122 := hI 122 (by decide) (by decide)
    rw [e115, e122, e2, e0, p.2.2.1] at h2
    rcases h2 with ⟨z, -⟩ | ⟨-, ⟨z, -⟩ | ⟨-, K, s, tk, h⟩⟩
    · exact absurd q z
    · exact absurd z q2
    · have ag := iAg2 hi.2.1 hi.2.2.1 (fun b hb => hI b (by omega) (by omega)) s tk
      rw [← sRea_ag ag t q.1.1 q.1.2 q.2.1.1 q.2.1.2] at h
      rcases h with ⟨-, b, ⟨v1, v2, v3, v4⟩, vj, vb⟩ | ⟨z, -⟩
      · refine ⟨by omega, rho1, Inv_cause s hI (fun b b1 b2 _ => vb b b1 b2) (fun b hb => (vb b (by omega) (by omega)).trans (s b (by omega) (by omega) (by omega))) (fun j j1 j2 j3 => by rw [vj j j1 j2 j3, e115]) ?_ hi⟩
        rw [← sTold_ag ag _ t q.1.1 q.1.2 q.2.1.1 q.2.1.2] at v4
        have o109 : I2 109 = I1 109 := (vb 109 (by decide) (by decide)).trans (s 109 (by decide) (by decide) (by decide))
        have o110 : I2 110 = I1 110 := (vb 110 (by decide) (by decide)).trans (s 110 (by decide) (by decide) (by decide))
        refine ⟨by rw [v1, o109, w1], by rw [o109, w1]; decide, fun i i0 i1 => ?_⟩
        rw [o109, w1] at i1
        rw [o110]
        rcases (show i = 0 ∨ i = 1 ∨ i = 2 by omega) with rfl | rfl | rfl
        · rw [v2, w2]
        · rw [v3, w3]
        · rw [v4, w4]
      · exact absurd z q3
  · have n6 := hi.2.1.1.1
    have p := hi.2.2.1.1 c q.1.1 q.1.2
    have kI : ∀ b : Nat, b ≠ 66 → b ≠ 67 → b ≠ 68 → I1 b = K b := fun b h6 h7 h8 => by rw [a2]; unfold zput; rw [zu_ne h8, zu_ne h7, zu_ne h6]
    have kb : ∀ b : Nat, (b < 94 ∨ 105 ≤ b) → b ≠ 66 → b ≠ 67 → b ≠ 68 → I1 b = I b := fun b hb h6 h7 h8 => (kI b h6 h7 h8).trans (cRem_b hr (by omega) (by omega))
    have e115 : I1 115 = I 115 := kb 115 (by omega) (by decide) (by decide) (by decide)
    have e122 : I1 122 = I 122 := kb 122 (by omega) (by decide) (by decide) (by decide)
    rw [e115, e122, e2, e0, p.2.2.1] at h2
    rcases h2 with ⟨z, -⟩ | ⟨-, ⟨z, -⟩ | ⟨-, Km, s, tk, h⟩⟩
    · exact absurd q z
    · exact absurd z q2
    · have ag := iAg2 hi.2.1 hi.2.2.1 (fun b hb => kb b (by omega) (by omega) (by omega) (by omega)) s tk
      rw [← sRea_ag ag t q.1.1 q.1.2 q.2.1.1 q.2.1.2] at h
      rcases h with ⟨z, -⟩ | ⟨-, b, J, n, b2, nb⟩
      · exact absurd q3 z
      · have g : ∀ b : Nat, b ≠ 122 → b ≠ 115 → b ≠ 123 → b < 128 → I2 b = I1 b := fun b h1 h2 h3 h4 => by rw [b2, mput_b h1, nb b h2 h3, s b (by omega) (by omega) (by omega)]
        have g2 : ∀ b : Nat, b < 115 → I2 b = I1 b := fun b hb => g b (by omega) (by omega) (by omega) (by omega)
        have gI : ∀ b : Nat, b < 94 → b ≠ 66 → b ≠ 67 → b ≠ 68 → I2 b = I b := fun b hb h6 h7 h8 => (g2 b (by omega)).trans (kb b (by omega) h6 h7 h8)
        have kc : kCh I I2 := fun b b0 b1 => gI b (by omega) (by omega) (by omega) (by omega)
        have J122 : J 122 = I 122 := (nb 122 (by decide) (by decide)).trans ((s 122 (by decide) (by decide) (by decide)).trans e122)
        have K66 : K 66 = I 66 := cRem_b hr (by omega) (by decide)
        have K67 : K 67 = I 67 := cRem_b hr (by omega) (by decide)
        have K68 : K 68 = I 68 := cRem_b hr (by omega) (by decide)
        have KT : sT (cS K 64) c w = tkOf (I 65 c) (I 36 c) (I (49 + c.toNat) w) := by
          rw [cS_T ⟨q.1.1, by omega⟩]
          show tkOf (K 65 c) (K 36 c) (K (49 + c.toNat) w) = _
          rw [cRem_b (b := 65) hr (by omega) (by decide), cRem_b (b := 36) hr (by omega) (by decide), cRem_b (b := 49 + c.toNat) hr (by omega) (by omega)]
        refine ⟨?_, Inv_act (I2 := I2) hi hr (fun b hb => kI b (by omega) (by omega) (by omega)) ?_ g2 (fun b b0 b1 b3 b4 => g b b3 (by omega) b4 (by omega)) ⟨fun x x0 x1 => ?_, iAh_ext kc (gI 69 (by omega) (by omega) (by omega) (by omega)) hi.2.2.1.2⟩⟩
        · rw [a, b]
          exact sLen_ag (sPut_ag ag t q.1.1 q.1.2 q.2.1.1 q.2.1.2) _ (by show ((I 34 2).toNat : Int) ≤ I 34 2; omega)
        · rw [b2, mput_b (show (115 : Nat) ≠ 122 by decide), mput_b (show (123 : Nat) ≠ 122 by decide)]
          exact n
        · rw [kc 34 (by omega) (by omega)] at x1
          have px := hi.2.2.1.1 x x0 x1
          rw [gI 65 (by omega) (by omega) (by omega) (by omega), g2 66 (by omega), g2 67 (by omega), g2 68 (by omega), show I2 122 = mput J c w t 122 by rw [b2]]
          unfold mput
          by_cases e : x = c
          · subst e
            have z1 : I1 66 x = w := by rw [a2]; unfold zput; rw [zu_ne (by decide), zu_ne (by decide), zu_eq]
            have z2 : I1 67 x = t := by rw [a2]; unfold zput; rw [zu_ne (by decide), zu_eq]
            have z3 : I1 68 x = t + tkOf (I 65 x) (I 36 x) (I (49 + x.toNat) w) := by rw [a2]; unfold zput; rw [zu_eq, KT]
            rw [z1, z2, z3, zu_ni (by omega), zu_ni (by omega), zu_ni (by omega), zu_eq, zu_eq, J122]
            exact ⟨rOk_ext kc x0 (by omega) ⟨px.1.1, ⟨by omega, q.2.1.2⟩, fun z => absurd (show 0 < w by omega) z, fun _ => ⟨⟨q.2.2.1, by omega⟩, rfl⟩⟩, px.2.1, rfl, rfl⟩
          · have z1 : I1 66 x = I 66 x := by rw [a2]; unfold zput; rw [zu_ne (by decide), zu_ne (by decide), zu_ni e, K66]
            have z2 : I1 67 x = I 67 x := by rw [a2]; unfold zput; rw [zu_ne (by decide), zu_ni e, zu_ne (by decide), K67]
            have z3 : I1 68 x = I 68 x := by rw [a2]; unfold zput; rw [zu_ni e, zu_ne (by decide), zu_ne (by decide), K68]
            rw [z1, z2, z3, zu_ni (by omega), zu_ni (by omega), zu_ni (by omega), zu_ni (by omega), zu_ni (by omega), zu_ni (by omega), J122]
            exact ⟨rOk_ext kc x0 (by omega) px.1, px.2⟩
end ZF8
