/-! call by call: rename, take -/
section ZF7
variable {I J K Z I1 I2 : zMem} {R R1 : zRef} {rho rho1 rho2 rho1' rho2' : Int → Nat}
theorem cRem_b (hr : cRem I K R R1 rho1 143) {b : Nat} (b1 : b < 95 ∨ 105 ≤ b) (b2 : b ≠ 94) : K b = I b := by
  obtain ⟨_, _, _, _, _, p5⟩ := hr.1
  rw [p5 b (by omega), zwr_na b2]
theorem iAg2 (hc : iCh I) (hp : iPl I) (hI : ∀ b : Nat, 115 ≤ b → I1 b = I b) (s : mSt I1 K) (t : mTaken K) : zAg (cS I 64) (mS K (-4)) := by
  obtain ⟨M, hM⟩ : ∃ M : zMem, M = fun b => if b < 115 then I b else K b := ⟨_, rfl⟩
  have e : ∀ b : Nat, 115 ≤ b → M b = K b := fun b hb => by rw [hM]; exact if_neg (by omega)
  have e0 : ∀ b : Nat, b < 115 → M b = I b := fun b hb => by rw [hM]; exact if_pos hb
  have sM : mSt I M := fun b b1 b2 b3 => by
    by_cases q : b < 115
    · exact e0 b q
    · exact (e b (by omega)).trans ((s b b1 b2 b3).trans (hI b (by omega)))
  have tM : mTaken M := fun c w c0 c1 w0 w1 => by
    rw [e 115 (by omega)] at c1 w1
    rw [e 137 (by omega), e 122 (by omega), t c w c0 c1 w0 w1]
    exact (mTo_ext (e 116 (by omega)) (e 118 (by omega)) (e 119 (by omega))).symm
  have g := iAg hc hp sM tM
  have em : mS M (-4) = mS K (-4) := mS_ext (fun j _ _ => by rw [e 115 (by omega)]) (e 117 (by omega)) (e 120 (by omega)) (e 121 (by omega)) (e 122 (by omega)) (e 137 (by omega))
  rwa [em] at g
theorem f_rename {c k r1 r2 : Int} (hi : Inv I R rho1 rho2) (h1 : (¬ ((0 ≤ c ∧ c < I 34 2) ∧ 0 ≤ k ∧ k ≤ 3) ∧ r1 = -1 ∧ I1 = I ∧ R1 = R) ∨ (((0 ≤ c ∧ c < I 34 2) ∧ 0 ≤ k ∧ k ≤ 3) ∧ (((I 65 c = k ∨ 0 < I 66 c) ∧ r1 = -2 ∧ I1 = I ∧ R1 = R) ∨ (¬ (I 65 c = k ∨ 0 < I 66 c) ∧ r1 = I 65 c ∧ ∃ K : zMem, cRem I K R R1 rho1 143 ∧ I1 = zu K 65 c k))))
    (h2 : (¬ ((0 ≤ c ∧ c < I1 115 2) ∧ 0 ≤ k ∧ k ≤ 3) ∧ r2 = -1 ∧ I2 = I1) ∨ (((0 ≤ c ∧ c < I1 115 2) ∧ 0 ≤ k ∧ k ≤ 3) ∧ (((I1 122 c = k ∨ 0 < I1 122 (6 + c)) ∧ r2 = -2 ∧ I2 = I1) ∨ (¬ (I1 122 c = k ∨ 0 < I1 122 (6 + c)) ∧ r2 = I1 122 c ∧ ∃ J : zMem, mNote2' I1 J ∧ (∀ b : Nat, b ≠ 115 → b ≠ 123 → J b = I1 b) ∧ I2 = zu J 122 c k)))) : r1 = r2 ∧ ∃ rho1' : Int → Nat, Inv I2 R1 rho1' rho2 := by
  have e2 := hi.2.1.2.2.1.2.2.1
  rcases h1 with ⟨q, a, rfl, rfl⟩ | ⟨q, ⟨q2, a, rfl, rfl⟩ | ⟨q2, a, K, hr, a2⟩⟩
  · rw [e2] at h2
    rcases h2 with ⟨-, b, rfl⟩ | ⟨z, -⟩
    · exact ⟨by omega, rho1, hi⟩
    · exact absurd z q
  · have p := hi.2.2.1.1 c q.1.1 q.1.2
    rw [e2, p.2.1, p.2.2.1] at h2
    rcases h2 with ⟨z, -⟩ | ⟨-, ⟨-, b, rfl⟩ | ⟨z, -⟩⟩
    · exact absurd q z
    · exact ⟨by omega, rho1, hi⟩
    · exact absurd q2 z
  · have n6 := hi.2.1.1.1
    have p := hi.2.2.1.1 c q.1.1 q.1.2
    have kI : ∀ b : Nat, b ≠ 65 → I1 b = K b := fun b hb => by rw [a2, zu_ne hb]
    have e115 : I1 115 = I 115 := (kI 115 (by decide)).trans (cRem_b hr (by omega) (by decide))
    have e122 : I1 122 = I 122 := (kI 122 (by decide)).trans (cRem_b hr (by omega) (by decide))
    rw [e115, e122, e2, p.2.1, p.2.2.1] at h2
    rcases h2 with ⟨z, -⟩ | ⟨-, ⟨z, -⟩ | ⟨-, b, J, n, nb, b2⟩⟩
    · exact absurd q z
    · exact absurd z q2
    · have g2 : ∀ b : Nat, b < 115 → I2 b = I1 b := fun b hb => by rw [b2, zu_ne (by omega)]; exact nb b (by omega) (by omega)
      have gI : ∀ b : Nat, b < 94 → b ≠ 65 → I2 b = I b := fun b hb h65 => (g2 b (by omega)).trans ((kI b h65).trans (cRem_b hr (by omega) (by omega)))
      have kc : kCh I I2 := fun b b0 b1 => gI b (by omega) (by omega)
      have g65 : I2 65 = zu K 65 c k 65 := (g2 65 (by decide)).trans (by rw [a2])
      have g122 : I2 122 = zu J 122 c k 122 := by rw [b2]
      have J122 : J 122 = I 122 := (nb 122 (by decide) (by decide)).trans e122
      have K65 : K 65 = I 65 := cRem_b hr (by omega) (by decide)
      refine ⟨by omega, Inv_act (I2 := I2) hi hr (fun b hb => kI b (by omega)) ?_ g2 (fun b b0 b1 b3 b4 => by rw [b2, zu_ne b3]; exact nb b (by omega) b4) ⟨fun x x0 x1 => ?_, iAh_ext kc (gI 69 (by omega) (by omega)) hi.2.2.1.2⟩⟩
      · rw [b2, zu_ne (show (115 : Nat) ≠ 122 by decide), zu_ne (show (123 : Nat) ≠ 122 by decide)]
        exact n
      · rw [kc 34 (by omega) (by omega)] at x1
        have px := hi.2.2.1.1 x x0 x1
        rw [gI 66 (by omega) (by omega), gI 67 (by omega) (by omega), gI 68 (by omega) (by omega), g65, g122]
        by_cases e : x = c
        · subst e
          rw [zu_eq, zu_eq, zu_ni (by omega), zu_ni (by omega), J122]
          have w0 : ¬ 0 < I 66 x := fun z => q2 (Or.inr z)
          exact ⟨rOk_ext kc x0 (by omega) ⟨q.2, px.1.2.1, px.1.2.2.1, fun z => absurd z w0⟩, rfl, px.2.2.1, px.2.2.2⟩
        · rw [zu_ni e, zu_ni e, zu_ni (by omega), zu_ni (by omega), J122, K65]
          exact ⟨rOk_ext kc x0 (by omega) px.1, px.2⟩
theorem f_take {c r1 r2 : Int} (hi : Inv I R rho1 rho2) (h1 : (¬ (0 ≤ c ∧ c < I 34 2) ∧ r1 = -1 ∧ I1 = I ∧ R1 = R) ∨ ((0 ≤ c ∧ c < I 34 2) ∧ ((¬ 0 < I 66 c ∧ r1 = -2 ∧ I1 = I ∧ R1 = R) ∨ (0 < I 66 c ∧ ∃ K : zMem, cRem I K R R1 rho1 143 ∧ I1 = zu (zu (zu K 66 c 0) 67 c 0) 68 c 0 ∧ r1 = sLen (cS I1 64) (I 34 2).toNat))))
    (h2 : mTakeP I1 c r2 I2) : r1 = r2 ∧ ∃ rho1' : Int → Nat, Inv I2 R1 rho1' rho2 := by
  have e2 := hi.2.1.2.2.1.2.2.1
  unfold mTakeP at h2
  rcases h1 with ⟨q, a, rfl, rfl⟩ | ⟨q, ⟨q2, a, rfl, rfl⟩ | ⟨q2, K, hr, a2, a⟩⟩
  · rw [e2] at h2
    rcases h2 with ⟨-, b, rfl⟩ | ⟨z, -⟩
    · exact ⟨by omega, rho1, hi⟩
    · exact absurd z q
  · have p := hi.2.2.1.1 c q.1 q.2
    rw [e2, p.2.2.1] at h2
    rcases h2 with ⟨z, -⟩ | ⟨-, ⟨-, b, rfl⟩ | ⟨z, -⟩⟩
    · exact absurd q z
    · exact ⟨by omega, rho1, hi⟩
    · exact absurd z q2
  · have n6 := hi.2.1.1.1
    have p := hi.2.2.1.1 c q.1 q.2
    have kI : ∀ b : Nat, b ≠ 66 → b ≠ 67 → b ≠ 68 → I1 b = K b := fun b h6 h7 h8 => by rw [a2, zu_ne h8, zu_ne h7, zu_ne h6]
    have e115 : I1 115 = I 115 := (kI 115 (by decide) (by decide) (by decide)).trans (cRem_b hr (by omega) (by decide))
    have e122 : I1 122 = I 122 := (kI 122 (by decide) (by decide) (by decide)).trans (cRem_b hr (by omega) (by decide))
    rw [e115, e122, e2, p.2.2.1] at h2
    rcases h2 with ⟨z, -⟩ | ⟨-, ⟨z, -⟩ | ⟨-, J, n, nb, st, tk, b⟩⟩
    · exact absurd q z
    · exact absurd q2 z
    · have g : ∀ b : Nat, b ≠ 122 → b < 128 → I2 b = J b := fun b h1 h2 => (st b (by omega) (by omega) (by omega)).trans (mput_b h1)
      have g2 : ∀ b : Nat, b < 115 → I2 b = I1 b := fun b hb => (g b (by omega) (by omega)).trans (nb b (by omega) (by omega))
      have gI : ∀ b : Nat, b < 94 → b ≠ 66 → b ≠ 67 → b ≠ 68 → I2 b = I b := fun b hb h6 h7 h8 => (g2 b (by omega)).trans ((kI b h6 h7 h8).trans (cRem_b hr (by omega) (by omega)))
      have kc : kCh I I2 := fun b b0 b1 => gI b (by omega) (by omega) (by omega) (by omega)
      have g122 : I2 122 = mput J c 0 0 122 := st 122 (by decide) (by decide) (by decide)
      have J122 : J 122 = I 122 := (nb 122 (by decide) (by decide)).trans e122
      have K66 : K 66 = I 66 := cRem_b hr (by omega) (by decide)
      have K67 : K 67 = I 67 := cRem_b hr (by omega) (by decide)
      have K68 : K 68 = I 68 := cRem_b hr (by omega) (by decide)
      obtain ⟨rho', hv⟩ := Inv_act (I2 := I2) hi hr (fun b hb => kI b (by omega) (by omega) (by omega)) (by
        rw [g 115 (by decide) (by decide), g 123 (by decide) (by decide)]
        exact n) g2 (fun b b0 b1 b3 b4 => (g b b3 (by omega)).trans (nb b (by omega) b4)) ⟨fun x x0 x1 => by
          rw [kc 34 (by omega) (by omega)] at x1
          have px := hi.2.2.1.1 x x0 x1
          rw [gI 65 (by omega) (by omega) (by omega) (by omega), g2 66 (by omega), g2 67 (by omega), g2 68 (by omega), g122]
          unfold mput
          by_cases e : x = c
          · subst e
            have z1 : I1 66 x = 0 := by rw [a2, zu_ne (by decide), zu_ne (by decide), zu_eq]
            have z2 : I1 67 x = 0 := by rw [a2, zu_ne (by decide), zu_eq]
            have z3 : I1 68 x = 0 := by rw [a2, zu_eq]
            rw [z1, z2, z3, zu_ni (by omega), zu_ni (by omega), zu_ni (by omega), zu_eq, zu_eq, J122]
            exact ⟨rOk_ext kc x0 (by omega) ⟨px.1.1, ⟨Int.le_refl _, by have := hi.2.1.1.2.1; omega⟩, fun _ => ⟨rfl, rfl⟩, fun z => absurd z (by omega)⟩, px.2.1, rfl, rfl⟩
          · have z1 : I1 66 x = I 66 x := by rw [a2, zu_ne (by decide), zu_ne (by decide), zu_ni e, K66]
            have z2 : I1 67 x = I 67 x := by rw [a2, zu_ne (by decide), zu_ni e, zu_ne (by decide), K67]
            have z3 : I1 68 x = I 68 x := by rw [a2, zu_ni e, zu_ne (by decide), zu_ne (by decide), K68]
            rw [z1, z2, z3, zu_ni (by omega), zu_ni (by omega), zu_ni (by omega), zu_ni (by omega), zu_ni (by omega), zu_ni (by omega), J122]
            exact ⟨rOk_ext kc x0 (by omega) px.1, px.2⟩, iAh_ext kc (gI 69 (by omega) (by omega) (by omega) (by omega)) hi.2.2.1.2⟩
      refine ⟨?_, rho', hv⟩
      have ag := iAg hv.2.1 hv.2.2.1 (fun _ _ _ _ => rfl) tk
      have ec : cS I2 64 = cS I1 64 := cS_ext (g2 34 (by omega)) (g2 36 (by omega)) (g2 37 (by omega)) (fun b b0 b1 => g2 b (by omega)) (g2 65 (by omega)) (g2 66 (by omega)) (g2 67 (by omega)) (g2 68 (by omega)) (g2 69 (by omega))
      rw [a, b, ← ec]
      exact sLen_ag ag _ (by show ((I 34 2).toNat : Int) ≤ I2 34 2; rw [kc 34 (by omega) (by omega)]; omega)
end ZF7
