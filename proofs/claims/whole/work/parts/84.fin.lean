/-! call by call: the same answer, and the invariant kept -/
section ZF
variable {I J I1 I2 : zMem} {R : zRef} {rho1 rho2 : Int → Nat}
theorem Inv_tx (hb : ∀ b : Nat, b ≠ 1 → b ≠ 2 → b ≠ 127 → b ≠ 115 → J b = I b) (hj : ∀ j : Int, j ≠ 20 → J 115 j = I 115 j) (ht : iTx J) (hi : Inv I R rho1 rho2) : Inv J R rho1 rho2 := by
  obtain ⟨i1, i2, i3, i4, i5, i6, i7, i8, i9, i10, i11⟩ := hi
  have kc : kCh I J := fun b b0 b1 => hb b (by omega) (by omega) (by omega) (by omega)
  have hz := i2.1
  refine ⟨ht, iCh_ext kc (fun b b0 b1 => hb b (by omega) (by omega) (by omega) (by omega)) (fun j j0 j1 => hj j (by omega)) i2, iPl_ext kc hz (fun b b0 b1 => hb b (by omega) (by omega) (by omega) (by omega)) (hb 122 (by omega) (by omega) (by omega) (by omega)) i3, iHs_ext kc hz (congrFun (hb 95 (by omega) (by omega) (by omega) (by omega)) 1) (hj 12 (by omega)) (hb 123 (by omega) (by omega) (by omega) (by omega)) (fun q q0 q1 => by have h9 := (i9.1 q q0 (by have := i4.2.1; omega)).2; exact hb _ (by omega) (by omega) (by omega) (by omega)) i4, iHs_ext kc hz (congrFun (hb 105 (by omega) (by omega) (by omega) (by omega)) 1) (hj 16 (by omega)) (hb 125 (by omega) (by omega) (by omega) (by omega)) (fun q q0 q1 => by have h9 := (i10.1 q q0 (by have := i5.2.1; omega)).2; exact hb _ (by omega) (by omega) (by omega) (by omega)) i5, iWh_ext (hb 109 (by omega) (by omega) (by omega) (by omega)) (hb 110 (by omega) (by omega) (by omega) (by omega)) (hb 126 (by omega) (by omega) (by omega) (by omega)) (hj 18 (by omega)) i6, iSe_ext (hb 34 (by omega) (by omega) (by omega) (by omega)) (hb 111 (by omega) (by omega) (by omega) (by omega)) (hb 112 (by omega) (by omega) (by omega) (by omega)) (hb 113 (by omega) (by omega) (by omega) (by omega)) (hb 114 (by omega) (by omega) (by omega) (by omega)) (hb 124 (by omega) (by omega) (by omega) (by omega)) (hj 14 (by omega)) i7, zCache_ext (fun _ _ _ _ h => bB_ext kc hz h) (hb 34 (by omega) (by omega) (by omega) (by omega)) (fun b b0 b1 => hb b (by omega) (by omega) (by omega) (by omega)) i8, i9, i10, i11⟩
theorem f_write {x r1 r2 : Int} (hi : Inv I R rho1 rho2) (h1 : (¬ (32 ≤ x ∧ x ≤ 126) ∧ r1 = -1 ∧ I1 = I) ∨ ((32 ≤ x ∧ x ≤ 126) ∧ I 1 1 = 200 ∧ r1 = -3 ∧ I1 = I) ∨ ((32 ≤ x ∧ x ≤ 126) ∧ I 1 1 < 200 ∧ r1 = I 1 1 + 1 ∧ I1 = zu (zu I 2 (I 1 1) x) 1 1 (I 1 1 + 1)))
    (h2 : (¬ (32 ≤ x ∧ x ≤ 126) ∧ r2 = -1 ∧ I2 = I1) ∨ ((32 ≤ x ∧ x ≤ 126) ∧ I1 115 20 = 200 ∧ r2 = -3 ∧ I2 = I1) ∨ ((32 ≤ x ∧ x ≤ 126) ∧ I1 115 20 < 200 ∧ r2 = I1 115 20 + 1 ∧ I2 = zu (zu I1 127 (I1 115 20) x) 115 20 (I1 115 20 + 1))) : r1 = r2 ∧ Inv I2 R rho1 rho2 := by
  obtain ⟨t1, t2, t3⟩ := hi.1
  have e20 : I1 115 20 = I 115 20 := by
    rcases h1 with ⟨_, _, rfl⟩ | ⟨_, _, _, rfl⟩ | ⟨_, _, _, rfl⟩
    · rfl
    · rfl
    · rw [zu_ne (by decide), zu_ne (by decide)]
  rw [e20, ← t1] at h2
  rcases h1 with ⟨a1, a2, rfl⟩ | ⟨a1, a2, a3, rfl⟩ | ⟨a1, a2, a3, a4⟩
  · rcases h2 with ⟨b1, b2, rfl⟩ | ⟨b1, _⟩ | ⟨b1, _⟩
    · exact ⟨by omega, hi⟩
    · exact absurd b1 a1
    · exact absurd b1 a1
  · rcases h2 with ⟨b1, b2, rfl⟩ | ⟨b1, b2, b3, rfl⟩ | ⟨b1, b2, _⟩
    · exact absurd a1 b1
    · exact ⟨by omega, hi⟩
    · omega
  · rcases h2 with ⟨b1, b2, b3⟩ | ⟨b1, b2, _⟩ | ⟨b1, b2, b3, b4⟩
    · exact absurd a1 b1
    · omega
    · refine ⟨by omega, Inv_tx (fun b c1 c2 c3 c4 => ?_) (fun j hj => ?_) ⟨?_, ?_, fun j j0 j1 => ?_⟩ hi⟩
      · rw [b4, zu_ne c4, zu_ne c3, a4, zu_ne c1, zu_ne c2]
      · rw [b4, zu_ni hj, zu_ne (by decide), a4, zu_ne (by decide), zu_ne (by decide)]
      · rw [b4, zu_eq, zu_ne (by decide), zu_ne (by decide), a4, zu_eq]
      · rw [b4, zu_ne (by decide), zu_ne (by decide), a4, zu_eq]
        omega
      · rw [b4, zu_ne (by decide), zu_ne (by decide), a4, zu_eq] at j1
        rw [b4, zu_ne (by decide), zu_ne (by decide), zu_ne (by decide), a4, zu_ne (by decide)]
        by_cases e : j = I 1 1
        · rw [e, zu_eq, zu_eq]
        · rw [zu_ni e, zu_ni e, zu_ne (by decide), zu_ne (by decide)]
          exact t3 j j0 (by omega)
theorem f_wipe {r1 r2 : Int} (hi : Inv I R rho1 rho2) (h1 : r1 = I 1 1 ∧ I1 = zu I 1 1 0) (h2 : r2 = I1 115 20 ∧ I2 = zu I1 115 20 0) : r1 = r2 ∧ Inv I2 R rho1 rho2 := by
  obtain ⟨t1, t2, t3⟩ := hi.1
  obtain ⟨rfl, rfl⟩ := h1
  obtain ⟨rfl, rfl⟩ := h2
  refine ⟨by rw [zu_ne (by decide)]; exact t1, Inv_tx (fun b c1 c2 c3 c4 => ?_) (fun j hj => ?_) ⟨?_, ?_, fun j j0 j1 => ?_⟩ hi⟩
  · rw [zu_ne c4, zu_ne c1]
  · rw [zu_ni hj, zu_ne (by decide)]
  · rw [zu_eq, zu_ne (by decide), zu_eq]
  · rw [zu_ne (by decide), zu_eq]
    omega
  · rw [zu_ne (by decide), zu_eq] at j1
    omega
theorem cFr_ge {o : Nat} (h : cFr I J o) (ho : o = 4) : (∀ b : Nat, 18 ≤ b → J b = I b) ∧ J 1 = I 1 ∧ J 2 = I 2 := ⟨fun b hb => h b (by omega) (by omega), h 1 (by omega) (by omega), h 2 (by omega) (by omega)⟩
theorem mFr_kp (h : mFr I J) : iKp I J := ⟨fun b hb => h.1 b (by omega) (by omega), fun j hj => h.2 j (by omega)⟩
theorem cFr_kp (h : cFr I J 4) : iKp I J := ⟨fun b hb => h b (by omega) (by omega), fun j hj => congrFun (h 115 (by omega) (by omega)) j⟩
theorem iParse (ht : iTx I) : (pParse (I 2) (I 1 1) 200 pS0 0).1 = (pParse (I 127) (I 115 20) 200 pS0 0).1 ∧ pEq (pParse (I 2) (I 1 1) 200 pS0 0).2 (pParse (I 127) (I 115 20) 200 pS0 0).2 := by
  obtain ⟨t1, t2, t3⟩ := ht
  rw [← t1]
  exact pParse_cg t3 200 pS0 pS0 0 (pEq_refl _)
theorem f_fault {r1 r2 : Int} (hi : Inv I R rho1 rho2) (h1 : r1 = (pParse (I 2) (I 1 1) 200 pS0 0).1 ∧ cFr I I1 4) (h2 : r2 = (pParse (I1 127) (I1 115 20) 200 pS0 0).1 ∧ (r2 = -4 ∨ (0 ≤ r2 ∧ r2 < 200)) ∧ (r2 = -4 → mRd I2 (pParse (I1 127) (I1 115 20) 200 pS0 0).2) ∧ mFr I1 I2) : r1 = r2 ∧ Inv I2 R rho1 rho2 := by
  obtain ⟨a1, a2⟩ := h1
  obtain ⟨b1, -, -, b2⟩ := h2
  have e127 : I1 127 = I 127 := a2 127 (by omega) (by omega)
  have e115 : I1 115 = I 115 := a2 115 (by omega) (by omega)
  refine ⟨?_, Inv_kc (iKp_trans (cFr_kp a2) (mFr_kp b2)) (fun b b0 b1 => (b2.1 b (by omega) (by omega)).trans (a2 b (by omega) (by omega))) hi⟩
  rw [a1, b1, e127, e115]
  exact (iParse hi.1).1
theorem mSw_kp (h : mSw I J) : iKp I J ∧ ∀ b : Nat, 75 ≤ b → b ≤ 85 → J b = I b := ⟨⟨fun b hb => h b (by omega) (by omega), fun j _ => congrFun (h 115 (by omega) (by omega)) j⟩, fun b b0 b1 => h b (by omega) (by omega)⟩
theorem mSt_kp (h : mSt I J) : iKp I J ∧ ∀ b : Nat, 75 ≤ b → b ≤ 85 → J b = I b := ⟨⟨fun b hb => h b (by omega) (by omega) (by omega), fun j _ => congrFun (h 115 (by omega) (by omega) (by omega)) j⟩, fun b b0 b1 => h b (by omega) (by omega) (by omega)⟩
theorem f_chain {c i r1 r2 : Int} (hi : Inv I R rho1 rho2) (h1 : r1 = cChain I c i ∧ I1 = I) (h2 : r2 = (if ¬ (0 ≤ c ∧ c < I1 115 2) ∨ i < 0 then -1 else if i < I1 118 c then I1 119 (6 * c + i) else -4) ∧ I2 = I1) : r1 = r2 ∧ Inv I2 R rho1 rho2 := by
  obtain ⟨rfl, rfl⟩ := h1
  obtain ⟨rfl, rfl⟩ := h2
  refine ⟨?_, hi⟩
  obtain ⟨hz, hl, ⟨e0, e1, e2, e3⟩, c1, c2⟩ := hi.2.1
  unfold cChain
  rw [e2]
  by_cases q : ¬ (0 ≤ c ∧ c < I2 34 2) ∨ i < 0
  · rw [if_pos q, if_pos q]
  · rw [if_neg q, if_neg q]
    have g := c1 c (by omega) (by omega)
    rw [g.2.2.1]
    by_cases q2 : i < I2 38 c
    · rw [if_pos q2, if_pos q2]
      exact (g.2.2.2 i (by omega) q2).symm
    · rw [if_neg q2, if_neg q2]
theorem f_line {c w i r1 r2 : Int} (hi : Inv I R rho1 rho2) (h1 : r1 = cLine I c w i ∧ I1 = I) (h2 : r2 = (if ¬ ((0 ≤ c ∧ c < I1 115 2) ∧ (1 ≤ w ∧ w ≤ I1 115 0) ∧ 0 ≤ i) then -1 else if i < I1 118 c then (mLp I1 c w (I1 118 c).toNat).2.1 i else -4) ∧ mSw I1 I2) : r1 = r2 ∧ Inv I2 R rho1 rho2 := by
  obtain ⟨rfl, rfl⟩ := h1
  obtain ⟨rfl, s⟩ := h2
  refine ⟨?_, Inv_kc (mSw_kp s).1 (mSw_kp s).2 hi⟩
  have hc := hi.2.1
  obtain ⟨hz, hl, ⟨e0, e1, e2, e3⟩, c1, c2⟩ := id hc
  unfold cLine
  rw [e2, e0]
  by_cases q : (0 ≤ c ∧ c < I1 34 2) ∧ (1 ≤ w ∧ w ≤ I1 34 0) ∧ 0 ≤ i
  · have nq : ¬ ¬ ((0 ≤ c ∧ c < I1 34 2) ∧ (1 ≤ w ∧ w ≤ I1 34 0) ∧ 0 ≤ i) := fun z => z q
    rw [if_neg nq, if_neg nq]
    have g := c1 c q.1.1 q.1.2
    rw [iLp hc q.1.1 q.1.2 q.2.1.1 q.2.1.2, g.2.2.1]
    by_cases q2 : i < I1 38 c
    · rw [if_pos q2, if_pos q2]
      exact (hl c w q.1.1 q.1.2 q.2.1.1 q.2.1.2).2 i q.2.2 q2
    · rw [if_neg q2, if_neg q2]
  · rw [if_pos q, if_pos q]
theorem f_why {i r1 r2 : Int} (hi : Inv I R rho1 rho2) (h1 : r1 = (if i < -1 then -1 else if i = -1 then I 109 1 else if i < I 109 1 then I 110 i else -4) ∧ I1 = I) (h2 : r2 = (if i < -1 then -1 else if i = -1 then I1 115 18 else if i < I1 115 18 then I1 126 i else -4) ∧ I2 = I1) : r1 = r2 ∧ Inv I2 R rho1 rho2 := by
  obtain ⟨rfl, rfl⟩ := h1
  obtain ⟨rfl, rfl⟩ := h2
  refine ⟨?_, hi⟩
  obtain ⟨w1, w2, w3⟩ := hi.2.2.2.2.2.1
  rw [w1]
  by_cases q : i < -1
  · rw [if_pos q, if_pos q]
  · rw [if_neg q, if_neg q]
    by_cases q2 : i = -1
    · rw [if_pos q2, if_pos q2]
    · rw [if_neg q2, if_neg q2]
      by_cases q3 : i < I2 109 1
      · rw [if_pos q3, if_pos q3]
        exact (w3 i (by omega) q3).symm
      · rw [if_neg q3, if_neg q3]
end ZF
