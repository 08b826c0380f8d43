/-! call by call: sightings, counts, the best -/
section ZF3
variable {I J K I1 I2 : zMem} {R : zRef} {rho1 rho2 : Int → Nat}
theorem Inv_se (hb : ∀ b : Nat, b ≠ 111 → b ≠ 112 → b ≠ 113 → b ≠ 114 → b ≠ 124 → b ≠ 115 → J b = I b) (hj : ∀ j : Int, j ≠ 14 → J 115 j = I 115 j) (ht : iSe J) (hi : Inv I R rho1 rho2) : Inv J R rho1 rho2 := by
  obtain ⟨i1, i2, i3, i4, i5, i6, i7, i8, i9, i10, i11⟩ := hi
  have kc : kCh I J := fun b b0 b1 => hb b (by omega) (by omega) (by omega) (by omega) (by omega) (by omega)
  have hz := i2.1
  refine ⟨iTx_ext (hb 1 (by omega) (by omega) (by omega) (by omega) (by omega) (by omega)) (hb 2 (by omega) (by omega) (by omega) (by omega) (by omega) (by omega)) (hb 127 (by omega) (by omega) (by omega) (by omega) (by omega) (by omega)) (hj 20 (by omega)) i1, iCh_ext kc (fun b b0 b1 => hb b (by omega) (by omega) (by omega) (by omega) (by omega) (by omega)) (fun j j0 j1 => hj j (by omega)) i2, iPl_ext kc hz (fun b b0 b1 => hb b (by omega) (by omega) (by omega) (by omega) (by omega) (by omega)) (hb 122 (by omega) (by omega) (by omega) (by omega) (by omega) (by omega)) i3, iHs_ext kc hz (congrFun (hb 95 (by omega) (by omega) (by omega) (by omega) (by omega) (by omega)) 1) (hj 12 (by omega)) (hb 123 (by omega) (by omega) (by omega) (by omega) (by omega) (by omega)) (fun q q0 q1 => by have h9 := (i9.1 q q0 (by have := i4.2.1; omega)).2; exact hb _ (by omega) (by omega) (by omega) (by omega) (by omega) (by omega)) i4, iHs_ext kc hz (congrFun (hb 105 (by omega) (by omega) (by omega) (by omega) (by omega) (by omega)) 1) (hj 16 (by omega)) (hb 125 (by omega) (by omega) (by omega) (by omega) (by omega) (by omega)) (fun q q0 q1 => by have h9 := (i10.1 q q0 (by have := i5.2.1; omega)).2; exact hb _ (by omega) (by omega) (by omega) (by omega) (by omega) (by omega)) i5, iWh_ext (hb 109 (by omega) (by omega) (by omega) (by omega) (by omega) (by omega)) (hb 110 (by omega) (by omega) (by omega) (by omega) (by omega) (by omega)) (hb 126 (by omega) (by omega) (by omega) (by omega) (by omega) (by omega)) (hj 18 (by omega)) i6, ht, zCache_ext (fun _ _ _ _ h => bB_ext kc hz h) (hb 34 (by omega) (by omega) (by omega) (by omega) (by omega) (by omega)) (fun b b0 b1 => hb b (by omega) (by omega) (by omega) (by omega) (by omega) (by omega)) i8, i9, i10, i11⟩
theorem Inv_wh (hb : ∀ b : Nat, b ≠ 109 → b ≠ 110 → b ≠ 126 → b ≠ 115 → J b = I b) (hj : ∀ j : Int, j ≠ 18 → j ≠ 37 → j ≠ 38 → J 115 j = I 115 j) (ht : iWh J) (hi : Inv I R rho1 rho2) : Inv J R rho1 rho2 := by
  obtain ⟨i1, i2, i3, i4, i5, i6, i7, i8, i9, i10, i11⟩ := hi
  have kc : kCh I J := fun b b0 b1 => hb b (by omega) (by omega) (by omega) (by omega)
  have hz := i2.1
  refine ⟨iTx_ext (hb 1 (by omega) (by omega) (by omega) (by omega)) (hb 2 (by omega) (by omega) (by omega) (by omega)) (hb 127 (by omega) (by omega) (by omega) (by omega)) (hj 20 (by omega) (by omega) (by omega)) i1, iCh_ext kc (fun b b0 b1 => hb b (by omega) (by omega) (by omega) (by omega)) (fun j j0 j1 => hj j (by omega) (by omega) (by omega)) i2, iPl_ext kc hz (fun b b0 b1 => hb b (by omega) (by omega) (by omega) (by omega)) (hb 122 (by omega) (by omega) (by omega) (by omega)) i3, iHs_ext kc hz (congrFun (hb 95 (by omega) (by omega) (by omega) (by omega)) 1) (hj 12 (by omega) (by omega) (by omega)) (hb 123 (by omega) (by omega) (by omega) (by omega)) (fun q q0 q1 => by have h9 := (i9.1 q q0 (by have := i4.2.1; omega)).2; exact hb _ (by omega) (by omega) (by omega) (by omega)) i4, iHs_ext kc hz (congrFun (hb 105 (by omega) (by omega) (by omega) (by omega)) 1) (hj 16 (by omega) (by omega) (by omega)) (hb 125 (by omega) (by omega) (by omega) (by omega)) (fun q q0 q1 => by have h9 := (i10.1 q q0 (by have := i5.2.1; omega)).2; exact hb _ (by omega) (by omega) (by omega) (by omega)) i5, ht, iSe_ext (hb 34 (by omega) (by omega) (by omega) (by omega)) (hb 111 (by omega) (by omega) (by omega) (by omega)) (hb 112 (by omega) (by omega) (by omega) (by omega)) (hb 113 (by omega) (by omega) (by omega) (by omega)) (hb 114 (by omega) (by omega) (by omega) (by omega)) (hb 124 (by omega) (by omega) (by omega) (by omega)) (hj 14 (by omega) (by omega) (by omega)) i7, zCache_ext (fun _ _ _ _ h => bB_ext kc hz h) (hb 34 (by omega) (by omega) (by omega) (by omega)) (fun b b0 b1 => hb b (by omega) (by omega) (by omega) (by omega)) i8, i9, i10, i11⟩
theorem f_count {wh r1 r2 : Int} (hi : Inv I R rho1 rho2) (h1 : r1 = cCount I wh ∧ I1 = I) (h2 : mCount I1 wh r2 I2) : r1 = r2 ∧ Inv I2 R rho1 rho2 := by
  obtain ⟨rfl, rfl⟩ := h1
  have hc := hi.2.1
  obtain ⟨hz, hl, ⟨e0, e1, e2, e3⟩, c1, c2⟩ := id hc
  have n6 := hz.1
  unfold cCount
  rcases h2 with ⟨rfl, s, t, rfl⟩ | ⟨q, rfl, rfl⟩
  · refine ⟨?_, Inv_st s hi⟩
    rw [if_neg (by decide), if_neg (by decide), if_neg (by decide), if_neg (by decide), if_neg (by decide), if_pos rfl, e2]
    exact sLen_ag (iAg hc hi.2.2.1 s t) _ (by show ((I1 34 2).toNat : Int) ≤ I1 34 2; omega)
  · refine ⟨?_, hi⟩
    have z : zsum (fun c => if 0 < I2 122 (6 + c) then 1 else 0) (I2 34 2).toNat = zsum (fun c => if 0 < I2 66 c then 1 else 0) (I2 34 2).toNat := zsum_congr (fun c c0 c1 => by
      show (if 0 < I2 122 (6 + c) then (1 : Int) else 0) = (if 0 < I2 66 c then 1 else 0)
      rw [(hi.2.2.1.1 c c0 (by omega)).2.2.1])
    rw [e0, e1, e2, e3, z, hi.2.2.2.2.2.2.1.2.1, hi.2.2.2.1.1, hi.2.2.2.2.1.1, ← hi.1.1, if_neg q]
theorem f_forget {r1 r2 : Int} (hi : Inv I R rho1 rho2) (h1 : r1 = I 111 4 ∧ I1 = zu I 111 4 0) (h2 : r2 = I1 115 14 ∧ I2 = zu I1 115 14 0) : r1 = r2 ∧ Inv I2 R rho1 rho2 := by
  obtain ⟨s1, s2, s3⟩ := hi.2.2.2.2.2.2.1
  obtain ⟨rfl, rfl⟩ := h1
  obtain ⟨rfl, rfl⟩ := h2
  refine ⟨by rw [zu_ne (by decide)]; exact s2.symm, Inv_se (fun b b1 _ _ _ _ b6 => by rw [zu_ne b6, zu_ne b1]) (fun j hj => by rw [zu_ni hj, zu_ne (by decide)]) ⟨⟨?_, fun i i0 i1 => ?_⟩, ?_, fun i i0 i1 => ?_⟩ hi⟩
  · rw [zu_ne (by decide), zu_eq]
    omega
  · rw [zu_ne (by decide), zu_eq] at i1
    omega
  · rw [zu_eq, zu_ne (by decide), zu_eq]
  · rw [zu_ne (by decide), zu_eq] at i1
    omega
theorem f_seen {c w t r1 r2 : Int} (hi : Inv I R rho1 rho2) (h1 : (¬ ((0 ≤ c ∧ c < I 34 2) ∧ (1 ≤ w ∧ w ≤ I 34 0) ∧ 1 ≤ t ∧ t ≤ 9999) ∧ r1 = -1 ∧ I1 = I) ∨ (((0 ≤ c ∧ c < I 34 2) ∧ (1 ≤ w ∧ w ≤ I 34 0) ∧ 1 ≤ t ∧ t ≤ 9999) ∧ ((I 111 4 = 6 ∧ r1 = -3 ∧ I1 = I) ∨ (I 111 4 < 6 ∧ r1 = I 111 4 + 1 ∧ I1 = zu (zu (zu (zu I 112 (I 111 4) c) 113 (I 111 4) w) 114 (I 111 4) t) 111 4 (I 111 4 + 1)))))
    (h2 : (¬ ((0 ≤ c ∧ c < I1 115 2) ∧ (1 ≤ w ∧ w ≤ I1 115 0) ∧ 1 ≤ t ∧ t ≤ 9999) ∧ r2 = -1 ∧ I2 = I1) ∨ (((0 ≤ c ∧ c < I1 115 2) ∧ (1 ≤ w ∧ w ≤ I1 115 0) ∧ 1 ≤ t ∧ t ≤ 9999) ∧ ((I1 115 14 = 6 ∧ r2 = -3 ∧ I2 = I1) ∨ (I1 115 14 < 6 ∧ r2 = I1 115 14 + 1 ∧ I2 = zu (zu (zu (zu I1 124 (3 * I1 115 14) c) 124 (3 * I1 115 14 + 1) w) 124 (3 * I1 115 14 + 2) t) 115 14 (I1 115 14 + 1))))) : r1 = r2 ∧ Inv I2 R rho1 rho2 := by
  obtain ⟨⟨s1, s1b⟩, s2, s3⟩ := hi.2.2.2.2.2.2.1
  obtain ⟨hz, hl, ⟨e0, e1, e2, e3⟩, c1, c2⟩ := id hi.2.1
  have e115 : I1 115 = I 115 := by
    rcases h1 with ⟨_, _, rfl⟩ | ⟨_, ⟨_, _, rfl⟩ | ⟨_, _, rfl⟩⟩
    · rfl
    · rfl
    · rw [zu_ne (by decide), zu_ne (by decide), zu_ne (by decide), zu_ne (by decide)]
  rw [e115, e2, e0, s2] at h2
  rcases h1 with ⟨q, a1, rfl⟩ | ⟨q, ⟨a0, a1, rfl⟩ | ⟨a0, a1, a2⟩⟩
  · rcases h2 with ⟨-, b1, rfl⟩ | ⟨q2, -⟩
    · exact ⟨by omega, hi⟩
    · exact absurd q2 q
  · rcases h2 with ⟨q2, -⟩ | ⟨-, ⟨b0, b1, rfl⟩ | ⟨b0, -⟩⟩
    · exact absurd q q2
    · exact ⟨by omega, hi⟩
    · omega
  · rcases h2 with ⟨q2, -⟩ | ⟨-, ⟨b0, -⟩ | ⟨b0, b1, b2⟩⟩
    · exact absurd q q2
    · omega
    · have g4 : I2 111 4 = I 111 4 + 1 := by rw [b2, zu_ne (by decide), zu_ne (by decide), zu_ne (by decide), zu_ne (by decide), a2, zu_eq]
      have gb : ∀ b : Nat, b ≠ 111 → b ≠ 112 → b ≠ 113 → b ≠ 114 → b ≠ 124 → b ≠ 115 → I2 b = I b := fun b d1 d2 d3 d4 d5 d6 => by rw [b2, zu_ne d6, zu_ne d5, zu_ne d5, zu_ne d5, a2, zu_ne d1, zu_ne d4, zu_ne d3, zu_ne d2]
      have g112 : I2 112 = zu I 112 (I 111 4) c 112 := by rw [b2, zu_ne (by decide), zu_ne (by decide), zu_ne (by decide), zu_ne (by decide), a2, zu_ne (by decide), zu_ne (by decide), zu_ne (by decide)]
      have g113 : I2 113 = zu I 113 (I 111 4) w 113 := by
        rw [b2, zu_ne (by decide), zu_ne (by decide), zu_ne (by decide), zu_ne (by decide), a2, zu_ne (by decide), zu_ne (by decide)]
        funext j
        by_cases e : j = I 111 4
        · rw [e, zu_eq, zu_eq]
        · rw [zu_ni e, zu_ni e, zu_ni e]
      have g114 : I2 114 = zu I 114 (I 111 4) t 114 := by
        rw [b2, zu_ne (by decide), zu_ne (by decide), zu_ne (by decide), zu_ne (by decide), a2, zu_ne (by decide)]
        funext j
        by_cases e : j = I 111 4
        · rw [e, zu_eq, zu_eq]
        · rw [zu_ni e, zu_ni e, zu_ni e, zu_ni e]
      have e124 : I1 124 = I 124 := by rw [a2, zu_ne (by decide), zu_ne (by decide), zu_ne (by decide), zu_ne (by decide)]
      have g124 : ∀ i : Int, 0 ≤ i → i ≤ I 111 4 → I2 124 (3 * i) = (if i = I 111 4 then c else I 124 (3 * i)) ∧ I2 124 (3 * i + 1) = (if i = I 111 4 then w else I 124 (3 * i + 1)) ∧ I2 124 (3 * i + 2) = (if i = I 111 4 then t else I 124 (3 * i + 2)) := fun i i0 i1 => by
        rw [b2, zu_ne (by decide)]
        by_cases e : i = I 111 4
        · rw [if_pos e, if_pos e, if_pos e, e]
          refine ⟨?_, ?_, zu_eq⟩
          · rw [zu_ni (by omega), zu_ni (by omega), zu_eq]
          · rw [zu_ni (by omega), zu_eq]
        · rw [if_neg e, if_neg e, if_neg e, zu_ni (by omega), zu_ni (by omega), zu_ni (by omega), zu_ni (by omega), zu_ni (by omega), zu_ni (by omega), zu_ni (by omega), zu_ni (by omega), zu_ni (by omega), e124]
          exact ⟨rfl, rfl, rfl⟩
      refine ⟨by omega, Inv_se gb (fun j hj => by rw [b2, zu_ni hj, zu_ne (by decide), zu_ne (by decide), zu_ne (by decide), e115]) ⟨⟨by rw [g4]; omega, fun i i0 i1 => ?_⟩, ?_, fun i i0 i1 => ?_⟩ hi⟩
      · rw [g4] at i1
        rw [g112, g113, gb 34 (by decide) (by decide) (by decide) (by decide) (by decide) (by decide)]
        by_cases e : i = I 111 4
        · rw [e, zu_eq, zu_eq]
          exact ⟨q.1, q.2.1⟩
        · rw [zu_ni e, zu_ni e]
          exact s1b i i0 (by omega)
      · rw [g4, b2, zu_eq]
      · rw [g4] at i1
        rw [g112, g113, g114, (g124 i i0 (by omega)).1, (g124 i i0 (by omega)).2.1, (g124 i i0 (by omega)).2.2]
        by_cases e : i = I 111 4
        · rw [if_pos e, if_pos e, if_pos e, e, zu_eq, zu_eq, zu_eq]
          exact ⟨rfl, rfl, rfl⟩
        · rw [if_neg e, if_neg e, if_neg e, zu_ni e, zu_ni e, zu_ni e]
          exact s3 i i0 (by omega)
theorem iMis (hi : Inv I R rho1 rho2) {c k : Int} : mmis I c k = zmis I c k := by
  obtain ⟨⟨s1, s1b⟩, s2, s3⟩ := hi.2.2.2.2.2.2.1
  unfold mmis zmis
  rw [s2]
  refine zfirst_congr (fun i i0 i1 => ?_)
  have g := s3 i i0 (by omega)
  have b := s1b i i0 (by omega)
  show (decide (I 124 (3 * i) = c) && decide (¬ mTo I k c (I 124 (3 * i + 1)) = I 124 (3 * i + 2))) = (decide (I 112 i = c) && decide (¬ tkOf k (I 36 c) (I (49 + c.toNat) (I 113 i)) = I 114 i))
  rw [g.1, g.2.1, g.2.2]
  by_cases e : I 112 i = c
  · rw [iTo hi.2.1 (by omega) (by omega) b.2.1 b.2.2]
  · rw [decide_eq_false e, Bool.false_and, Bool.false_and]
theorem f_kinds {c r1 r2 : Int} (hi : Inv I R rho1 rho2) (h1 : r1 = (if ¬ (0 ≤ c ∧ c < I 34 2) then -1 else zkb (fun k => decide (zmis I c k = -4)) 4) ∧ I1 = I) (h2 : r2 = (if ¬ (0 ≤ c ∧ c < I1 115 2) then -1 else zkb (fun k => decide (mmis I1 c k = -4)) 4) ∧ mSw I1 I2) : r1 = r2 ∧ Inv I2 R rho1 rho2 := by
  obtain ⟨rfl, rfl⟩ := h1
  obtain ⟨rfl, s⟩ := h2
  refine ⟨?_, Inv_kc (mSw_kp s).1 (mSw_kp s).2 hi⟩
  rw [hi.2.1.2.2.1.2.2.1, zkb_cg (P := fun k => decide (zmis I1 c k = -4)) (Q := fun k => decide (mmis I1 c k = -4)) 4 (fun k _ _ => by
    show decide (zmis I1 c k = -4) = decide (mmis I1 c k = -4)
    rw [iMis hi])]
end ZF3
