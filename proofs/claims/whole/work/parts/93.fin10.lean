/-! call by call: lay -/
section ZF10
variable {I J K Z I1 I2 : zMem} {R R1 : zRef} {rho rho1 rho2 rho1' rho2' : Int → Nat}
theorem cRd_zCh {S : pS} (hr : cRd I 34 S) (hS : pGood S) (hl : zLaid I) (h1 : 1 ≤ S.1.2.2.1) : zCh I := by
  obtain ⟨⟨r1, r2, r3, r4⟩, r5, r6⟩ := hr
  obtain ⟨g1, g2, g3, g4, g5, g6⟩ := hS
  refine ⟨by omega, by omega, by omega, by omega, fun c c0 c1 => ?_, fun b b0 b1 => ?_⟩
  · rw [r3] at c1
    have a := r5 c c0 c1
    have g := g5 c c0 c1
    have e36 : I 36 c = S.2.2.1 c := a.2.1
    have e37 : I 37 c = S.2.2.2.1 c := a.2.2.1
    have e38 : I 38 c = S.2.2.2.2.1 c := a.2.2.2.1
    have le : ∀ i : Int, 0 ≤ i → i < I 38 c → 1 ≤ I (40 + c.toNat) i ∧ I (40 + c.toNat) i ≤ 9 := fun i i0 i1 => by
      rw [e38] at i1
      have e40 : I (40 + c.toNat) i = S.2.2.2.2.2.1 c i := a.2.2.2.2 i i0 i1
      rw [e40]
      exact g.2.2.2.2 i i0 i1
    refine ⟨by rw [e36]; exact g.2.1, by rw [e37]; exact g.2.2.1, by rw [e38]; exact g.2.2.2.1, le, fun w w0 w1 => ?_⟩
    rw [(hl c w c0 (by rw [r3]; exact c1) w0 w1).1]
    have z := zlp_b (len := I (40 + c.toNat)) (n := (I 38 c).toNat) (w := w.toNat) (by omega) (fun i i0 i1 => le i i0 (by omega)) (I 38 c).toNat (Nat.le_refl _)
    have := g.2.2.2.1
    exact ⟨z.2.2.1 (by omega), by have := z.2.1.2; omega⟩
  · rw [r4] at b1
    have a := r6 b b0 b1
    have e46 : I 46 b = S.2.2.2.2.2.2.1 b := a.1
    have e47 : I 47 b = S.2.2.2.2.2.2.2 b := a.2
    rw [e46, e47, r3]
    exact g6 b b0 b1
/-- both laid: nothing put, nothing remembered -/
theorem Inv_laid {S S' : pS} (hS : pGood S) (he : pEq S S') (h1 : 1 ≤ S.1.2.2.1) (hr : cRd J 34 S) (hl : zLaid J) (hk : ∀ c : Int, 0 ≤ c → c < S.1.2.2.1 → J 65 c = S.2.1 c) (hp : ∀ c : Int, 0 ≤ c → c < 6 → J 66 c = 0 ∧ J 67 c = 0 ∧ J 68 c = 0 ∧ (0 ≤ J 69 c ∧ J 69 c < 64) ∧ ∀ a : Int, 0 ≤ a → a < 6 → (zbt (J 69 c) a = true ↔ ∃ b : Int, 0 ≤ b ∧ b < J 34 3 ∧ b ≠ -4 ∧ J 46 b = a ∧ J 47 b = c)) (h85 : ∀ l : Int, 0 ≤ l → l < 9 → J 85 l = 0) (h95 : J 95 1 = 0) (h105 : J 105 1 = 0) (h109 : J 109 1 = 0) (h111 : J 111 4 = 0)
    (hm : mLaid J S') (m12 : J 115 12 = 0) (m14 : J 115 14 = 0) (m16 : J 115 16 = 0) (m18 : J 115 18 = 0) (ht : iTx J) (s1 : zShf 95 8 R rho1) (s2 : zShf 105 2 R rho2) (hW : zWir 143 R) : Inv J R rho1 rho2 := by
  have hz := cRd_zCh hr hS hl h1
  obtain ⟨⟨r1, r2, r3, r4⟩, r5, r6⟩ := hr
  obtain ⟨⟨q1, q2, q3, q4⟩, q5, q6⟩ := hm
  obtain ⟨e1, e2, e3, e4, e5, e6, e7⟩ := he
  have n6 := hS.2.2.1
  refine ⟨ht, ⟨hz, hl, ⟨by rw [q1, ← e1]; exact r1.symm, by rw [q2, ← e1]; exact r2.symm, by rw [q3, ← e1]; exact r3.symm, by rw [q4, ← e1]; exact r4.symm⟩, fun c c0 c1 => ?_, fun b b0 b1 => ?_⟩, ⟨fun c c0 c1 => ?_, fun c c0 c1 => ⟨(hp c c0 c1).2.2.2.1, (hp c c0 c1).2.2.2.2⟩⟩, ⟨by rw [m12, h95], by rw [h95]; decide, fun q q0 q1 => by rw [h95] at q1; omega⟩, ⟨by rw [m16, h105], by rw [h105]; decide, fun q q0 q1 => by rw [h105] at q1; omega⟩, ⟨by rw [m18, h109], by rw [h109]; decide, fun q q0 q1 => by rw [h109] at q1; omega⟩, ⟨⟨by rw [h111]; decide, fun q q0 q1 => by rw [h111] at q1; omega⟩, by rw [m14, h111], fun q q0 q1 => by rw [h111] at q1; omega⟩, fun l l0 l1 => Or.inl (h85 l l0 l1), s1, s2, hW⟩
  · rw [r3] at c1
    have a := r5 c c0 c1
    have m := q5 c c0 (by rw [← e1]; exact c1)
    have e36 : J 36 c = S.2.2.1 c := a.2.1
    have e37 : J 37 c = S.2.2.2.1 c := a.2.2.1
    have e38 : J 38 c = S.2.2.2.2.1 c := a.2.2.2.1
    refine ⟨by rw [m.2.1, e36, e3], by rw [m.2.2.1, e37, e4], by rw [m.2.2.2.1, e38, e5], fun i i0 i1 => ?_⟩
    rw [e38] at i1
    have e40 : J (40 + c.toNat) i = S.2.2.2.2.2.1 c i := a.2.2.2.2 i i0 i1
    rw [e40, m.2.2.2.2 i i0 (by rw [← e5]; exact i1)]
    exact (e6 c i c0 c1 i0 i1).symm
  · rw [r4] at b1
    have a := r6 b b0 b1
    have m := q6 b b0 (by rw [← e1]; exact b1)
    have e46 : J 46 b = S.2.2.2.2.2.2.1 b := a.1
    have e47 : J 47 b = S.2.2.2.2.2.2.2 b := a.2
    exact ⟨by rw [m.1, e46, e7], by rw [m.2, e47, e7]⟩
  · rw [r3] at c1
    have m := q5 c c0 (by rw [← e1]; exact c1)
    obtain ⟨p1, p2, p3, -⟩ := hp c c0 (by omega)
    have g := hS.2.2.2.2.1 c c0 c1
    rw [p1, p2, p3, hk c c0 c1, m.1.1, m.1.2.1, m.1.2.2, e2]
    rw [e2] at g
    exact ⟨⟨g.1, ⟨Int.le_refl _, by have := hz.2.1; omega⟩, fun _ => ⟨rfl, rfl⟩, fun z => absurd z (by omega)⟩, rfl, rfl, rfl⟩
theorem f_lay {r1 r2 : Int} (hi : Inv I R rho1 rho2) (h1 : cLayP I r1 I1) (h2 : mLayP I1 r2 I2) : r1 = r2 ∧ Inv I2 R rho1 rho2 := by
  have hS : pGood (pParse (I 2) (I 1 1) 200 pS0 0).2 := pParse_good 200 pS0 0 pGood0
  have hp := iParse hi.1
  have hI : ∀ b : Nat, 115 ≤ b → I1 b = I b := fun b hb => by
    rcases h1 with ⟨-, -, f⟩ | ⟨-, -, -, -, -, -, -, -, -, -, -, -, -, f⟩
    · exact f b (by omega) (by omega)
    · exact f b hb
  unfold mLayP at h2
  rw [hI 127 (by omega), hI 115 (by omega)] at h2
  obtain ⟨t1, t2, t3⟩ := hi.1
  have hc : (pParse (I 2) (I 1 1) 200 pS0 0).2.1.2.2.1 = (pParse (I 127) (I 115 20) 200 pS0 0).2.1.2.2.1 := by rw [hp.2.1]
  rcases h1 with ⟨q, a, f⟩ | ⟨q, a, c1, c2, c3, c4, c5, c6, c7, c8, c9, c10, c11, c12⟩
  · rw [hp.1, hc] at q
    rcases h2 with ⟨-, b, g⟩ | ⟨q2, -⟩
    · exact ⟨by omega, Inv_kc (iKp_trans (cFr_kp f) (mFr_kp g)) (fun b b0 b1 => (g.1 b (by omega) (by omega)).trans (f b (by omega) (by omega))) hi⟩
    · exact absurd q2 q
  · have q' := q
    rw [hp.1, hc] at q
    rcases h2 with ⟨q2, -⟩ | ⟨-, b, m1, m2, m3, m4, m5, m6, m7, m8⟩
    · exact absurd q q2
    · refine ⟨by omega, Inv_laid (J := I2) hS hp.2 q'.2 (cRd_ext (fun b b0 b1 => m8 b (by omega)) hS c1) (kCh_l (fun b b0 b1 => m8 b (by omega)) (cRd_zCh c1 hS c2 q'.2) c2) (fun c c0 cn => by rw [m8 65 (by omega)]; exact c3 c c0 cn) (fun c c0 cn => by
        rw [m8 66 (by omega), m8 67 (by omega), m8 68 (by omega), m8 69 (by omega), m8 34 (by omega), m8 46 (by omega), m8 47 (by omega)]
        exact c4 c c0 cn) (fun l l0 l1 => by rw [m8 85 (by omega)]; exact c5 l l0 l1) (by rw [m8 95 (by omega)]; exact c6) (by rw [m8 105 (by omega)]; exact c7) (by rw [m8 109 (by omega)]; exact c8) (by rw [m8 111 (by omega)]; exact c9) m1 m2 m3 m4 m5 ?_ hi.2.2.2.2.2.2.2.2.1 hi.2.2.2.2.2.2.2.2.2.1 hi.2.2.2.2.2.2.2.2.2.2⟩
      unfold iTx
      rw [m8 1 (by omega), m8 2 (by omega), c10, c11, m6, m7]
      exact ⟨t1, t2, t3⟩
end ZF10
