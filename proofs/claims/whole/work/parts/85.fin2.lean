/-! call by call: what only asks -/
theorem zminf_cg {f g : Int → Int} : ∀ n : Nat, (∀ w : Int, 1 ≤ w → w ≤ n → f w = g w) → zminf f n = zminf g n := by
  intro n
  induction n with
  | zero => exact fun _ => rfl
  | succ n ih =>
    intro h
    show min (zminf f n) (f ((n : Int) + 1)) = min (zminf g n) (g ((n : Int) + 1))
    rw [ih (fun w w0 w1 => h w w0 (by omega)), h ((n : Int) + 1) (by omega) (by omega)]
theorem zst_cg {f g : Int → Int} : ∀ n : Nat, (∀ w : Int, 1 ≤ w → w ≤ n → f w = g w) → zst f n = zst g n := by
  intro n
  induction n with
  | zero => exact fun _ => rfl
  | succ n ih =>
    intro h
    show (if f ((n : Int) + 1) < (zst f n).2 then (zior (zst f n).1 (zishl 1 ((n : Int) + 1)), f ((n : Int) + 1)) else zst f n) = (if g ((n : Int) + 1) < (zst g n).2 then (zior (zst g n).1 (zishl 1 ((n : Int) + 1)), g ((n : Int) + 1)) else zst g n)
    rw [ih (fun w w0 w1 => h w w0 (by omega)), h ((n : Int) + 1) (by omega) (by omega)]
theorem zmxf_cg {P P' : Int → Bool} {v v' : Int → Int} : ∀ n : Nat, (∀ c : Int, 0 ≤ c → c < n → P c = P' c ∧ v c = v' c) → zmxf P v n = zmxf P' v' n := by
  intro n
  induction n with
  | zero => exact fun _ => rfl
  | succ n ih =>
    intro h
    show (if P (n : Int) then max (zmxf P v n) (v n) else zmxf P v n) = (if P' (n : Int) then max (zmxf P' v' n) (v' n) else zmxf P' v' n)
    rw [ih (fun c c0 c1 => h c c0 (by omega)), (h n (by omega) (by omega)).1, (h n (by omega) (by omega)).2]
theorem zup_cg {ah ah' : Int → Int → Bool} {le le' : Int → Int} {N : Int} (ha : ∀ a c : Int, 0 ≤ a → a < N → 0 ≤ c → c < N → ah a c = ah' a c) (hl : ∀ c : Int, 0 ≤ c → c < N → le c = le' c) : ∀ n : Nat, (n : Int) ≤ N → zup ah le n = zup ah' le' n := by
  intro n
  induction n with
  | zero => exact fun _ => rfl
  | succ n ih =>
    intro hn
    funext x
    show (if x = (n : Int) then zmxf (fun a => ah a n) (zup ah le n) n + le n else zup ah le n x) = (if x = (n : Int) then zmxf (fun a => ah' a n) (zup ah' le' n) n + le' n else zup ah' le' n x)
    rw [ih (by omega), hl n (by omega) (by omega), zmxf_cg (P := fun a => ah a n) (P' := fun a => ah' a n) (v := zup ah' le' n) (v' := zup ah' le' n) n (fun c c0 c1 => ⟨ha c n c0 (by omega) (by omega) (by omega), rfl⟩)]
theorem zkb_cg {P Q : Int → Bool} : ∀ n : Nat, (∀ k : Int, 0 ≤ k → k < n → P k = Q k) → zkb P n = zkb Q n := by
  intro n
  induction n with
  | zero => exact fun _ => rfl
  | succ n ih =>
    intro h
    show (if P (n : Int) then zior (zkb P n) (zishl 1 n) else zkb P n) = (if Q (n : Int) then zior (zkb Q n) (zishl 1 n) else zkb Q n)
    rw [ih (fun k k0 k1 => h k k0 (by omega)), h n (by omega) (by omega)]
section ZG2
variable {S S' : zS}
theorem sLeast_ag (h : zAg S S') {c : Int} (c0 : 0 ≤ c) (c1 : c < sN S) (hL : 0 ≤ sL S) : sLeast S c = sLeast S' c := by
  unfold sLeast
  rw [← h.2.1]
  exact zminf_cg _ (fun w w0 w1 => (h.2.2.2 c c0 c1).2.1 w w0 (by omega))
theorem sArea_ag (h : zAg S S') (hL : 0 ≤ sL S) : sArea S = sArea S' := by
  unfold sArea
  rw [← h.1, ← h.2.1]
  rw [zsum_congr (f := fun c => zminf (fun w => w * sT S c w) (sL S).toNat) (g := fun c => zminf (fun w => w * sT S' c w) (sL S).toNat) (fun c c0 c1 => zminf_cg _ (fun w w0 w1 => by
    show w * sT S c w = w * sT S' c w
    rw [(h.2.2.2 c c0 (by omega)).2.1 w w0 (by omega)]))]
theorem sPath_ag (h : zAg S S') (hL : 0 ≤ sL S) (hN : 0 ≤ sN S) : sPath S = sPath S' := by
  unfold sPath
  rw [← h.1, zup_cg (N := sN S) (fun a c a0 a1 c0 c1 => (h.2.2.2 c c0 c1).2.2.1 a a0 a1) (fun c c0 c1 => sLeast_ag h c0 c1 hL) (sN S).toNat (by omega)]
theorem sDrawn_ag (h : zAg S S') (hL : 0 ≤ sL S) : sDrawn S = sDrawn S' := by
  unfold sDrawn
  rw [← h.1, ← h.2.2.1, zsum_congr (f := fun c => sLeast S c * sD S c) (g := fun c => sLeast S' c * sD S' c) (fun c c0 c1 => by
    show sLeast S c * sD S c = sLeast S' c * sD S' c
    rw [sLeast_ag h c0 (by omega) hL, (h.2.2.2 c c0 (by omega)).1])]
theorem sGreat_ag (h : zAg S S') (hL : 0 ≤ sL S) (hN : 0 ≤ sN S) : sGreat S = sGreat S' := by
  unfold sGreat
  rw [sArea_ag h hL, sPath_ag h hL hN, sDrawn_ag h hL]
end ZG2
section ZF2
variable {I J K I1 I2 : zMem} {R : zRef} {rho1 rho2 : Int → Nat}
theorem Inv_st (s : mSt I J) (hi : Inv I R rho1 rho2) : Inv J R rho1 rho2 := Inv_kc (mSt_kp s).1 (mSt_kp s).2 hi
theorem Inv_up (s : mUp I J) (hi : Inv I R rho1 rho2) : Inv J R rho1 rho2 := Inv_kc ⟨fun b hb => s b (by omega), fun j _ => congrFun (s 115 (by omega)) j⟩ (fun b b0 b1 => s b (by omega)) hi
theorem Inv_sm (s : mSm I J) (hi : Inv I R rho1 rho2) : Inv J R rho1 rho2 := Inv_kc ⟨fun b hb => s.1 b (by omega), fun j hj => s.2 j (by omega)⟩ (fun b b0 b1 => s.1 b (by omega)) hi
theorem f_core {c wh r1 r2 : Int} (hi : Inv I R rho1 rho2) (h1 : r1 = cCore I c wh ∧ I1 = I) (h2 : mCore I1 c wh r2 I2) : r1 = r2 ∧ Inv I2 R rho1 rho2 := by
  obtain ⟨rfl, rfl⟩ := h1
  have hc := hi.2.1
  obtain ⟨hz, hl, ⟨e0, e1, e2, e3⟩, c1, c2⟩ := id hc
  unfold cCore
  rcases h2 with ⟨q, rfl, rfl⟩ | ⟨q, h2⟩
  · rw [e2] at q
    rw [if_pos q]
    exact ⟨rfl, hi⟩
  · rw [e2] at q
    have nq : ¬ ¬ (0 ≤ c ∧ c < I1 34 2) := fun z => z q
    rw [if_neg nq]
    have g := c1 c q.1 q.2
    have p := hi.2.2.1.1 c q.1 q.2
    rcases h2 with ⟨w6, rfl, rfl⟩ | ⟨rfl, s, t, rfl⟩
    · refine ⟨?_, hi⟩
      rw [g.1, g.2.1, g.2.2.1, p.2.1, p.2.2.1, p.2.2.2, if_neg w6]
    · refine ⟨?_, Inv_st s hi⟩
      rw [if_neg (by decide), if_neg (by decide), if_neg (by decide), if_neg (by decide), if_neg (by decide), if_neg (by decide), if_pos rfl, e0]
      have ag := iAg hc hi.2.2.1 s t
      rw [zst_cg _ (fun w w0 w1 => (ag.2.2.2 c q.1 q.2).2.1 w w0 (by show w ≤ I1 34 0; have := hz.2.1; omega))]
theorem f_soonest {c w r1 r2 : Int} (hi : Inv I R rho1 rho2) (h1 : r1 = (if ¬ ((0 ≤ c ∧ c < I 34 2) ∧ 1 ≤ w ∧ w ≤ I 34 0) then -1 else if 0 < I 66 c then -4 else sSoon (cS I 64) c w 1000000) ∧ I1 = I) (h2 : mSoonP I1 c w r2 I2) : r1 = r2 ∧ Inv I2 R rho1 rho2 := by
  obtain ⟨rfl, rfl⟩ := h1
  have hc := hi.2.1
  obtain ⟨hz, hl, ⟨e0, e1, e2, e3⟩, c1, c2⟩ := id hc
  have n6 := hz.1
  unfold mSoonP at h2
  rw [e2, e0] at h2
  rcases h2 with ⟨q, rfl, rfl⟩ | ⟨q, K, s, t, m, rfl⟩
  · rw [if_pos q]
    exact ⟨rfl, hi⟩
  · have nq : ¬ ¬ ((0 ≤ c ∧ c < I1 34 2) ∧ 1 ≤ w ∧ w ≤ I1 34 0) := fun z => z q
    rw [if_neg nq]
    refine ⟨?_, Inv_sm m (Inv_st s hi)⟩
    have p := hi.2.2.1.1 c q.1.1 q.1.2
    rw [p.2.2.1]
    by_cases q3 : 0 < I1 66 c
    · rw [if_pos q3, if_pos q3]
    · rw [if_neg q3, if_neg q3]
      have ag := iAg hc hi.2.2.1 s t
      have gd := iGd hc hi.2.2.1
      rw [← sSoon_ag ag 2000000 q.1.1 q.1.2 q.2.1 q.2.2, sSoon_cut (S := cS I1 64) (c := c) (w := w) (show (1000000 : Int) ≤ 2000000 by decide)]
      have fb := sSoon_FB gd (y := 2000000) q.1.1 q.1.2 q.2.1 q.2.2
      have tb := (gd.2.2.2 c q.1.1 q.1.2).2.1 w q.2.1 q.2.2
      by_cases q4 : sSoon (cS I1 64) c w 2000000 = -4
      · rw [if_neg (fun z => z.1 q4), q4]
      · rw [if_pos ⟨q4, by omega⟩]
theorem f_runs {t wh r1 r2 : Int} (hi : Inv I R rho1 rho2) (h1 : r1 = (if ¬ ((0 ≤ t ∧ t ≤ 99999) ∧ 0 ≤ wh ∧ wh ≤ 2) then -1 else sUse (cS I 64) wh t) ∧ I1 = I) (h2 : (¬ ((0 ≤ t ∧ t ≤ 99999) ∧ 0 ≤ wh ∧ wh ≤ 2) ∧ r2 = -1 ∧ I2 = I1) ∨ (((0 ≤ t ∧ t ≤ 99999) ∧ 0 ≤ wh ∧ wh ≤ 2) ∧ mSt I1 I2 ∧ mTaken I2 ∧ r2 = sUse (mS I2 (-4)) wh t)) : r1 = r2 ∧ Inv I2 R rho1 rho2 := by
  obtain ⟨rfl, rfl⟩ := h1
  rcases h2 with ⟨q, rfl, rfl⟩ | ⟨q, s, tk, rfl⟩
  · rw [if_pos q]
    exact ⟨rfl, hi⟩
  · have nq : ¬ ¬ ((0 ≤ t ∧ t ≤ 99999) ∧ 0 ≤ wh ∧ wh ≤ 2) := fun z => z q
    rw [if_neg nq]
    exact ⟨sUse_ag (iAg hi.2.1 hi.2.2.1 s tk) wh t, Inv_st s hi⟩
theorem f_bound {wh r1 r2 : Int} (hi : Inv I R rho1 rho2) (h1 : r1 = (if wh = 0 then sArea (cS I 64) else if wh = 1 then sPath (cS I 64) else if wh = 2 then sDrawn (cS I 64) else if wh = 3 then sGreat (cS I 64) else -1) ∧ ∀ b : Nat, b ≠ 71 → I1 b = I b) (h2 : (¬ (0 ≤ wh ∧ wh ≤ 3) ∧ r2 = -1 ∧ I2 = I1) ∨ ((0 ≤ wh ∧ wh ≤ 3) ∧ ∃ K : zMem, mSt I1 K ∧ mTaken K ∧ mUp K I2 ∧ r2 = (if wh = 0 then sArea (mS K (-4)) else if wh = 1 then sPath (mS K (-4)) else if wh = 2 then sDrawn (mS K (-4)) else sGreat (mS K (-4))))) : r1 = r2 ∧ Inv I2 R rho1 rho2 := by
  obtain ⟨h1, k1⟩ := h1
  have hi1 : Inv I1 R rho1 rho2 := Inv_kc ⟨fun b hb => k1 b (by omega), fun j _ => congrFun (k1 115 (by omega)) j⟩ (fun b b0 b1 => k1 b (by omega)) hi
  have e : cS I1 64 = cS I 64 := cS_ext (k1 34 (by omega)) (k1 36 (by omega)) (k1 37 (by omega)) (fun b b0 b1 => k1 b (by omega)) (k1 65 (by omega)) (k1 66 (by omega)) (k1 67 (by omega)) (k1 68 (by omega)) (k1 69 (by omega))
  rw [← e] at h1
  have hL : 0 ≤ sL (cS I1 64) := by have := hi1.2.1.1.2.1; show 0 ≤ I1 34 0; omega
  have hN : 0 ≤ sN (cS I1 64) := by have := hi1.2.1.1.1; show 0 ≤ I1 34 2; omega
  rcases h2 with ⟨q, rfl, rfl⟩ | ⟨q, K, s, t, m, rfl⟩
  · rw [if_neg (by omega), if_neg (by omega), if_neg (by omega), if_neg (by omega)] at h1
    exact ⟨h1, hi1⟩
  · have ag := iAg hi1.2.1 hi1.2.2.1 s t
    refine ⟨?_, Inv_up m (Inv_st s hi1)⟩
    rw [h1, sArea_ag ag hL, sPath_ag ag hL hN, sDrawn_ag ag hL, sGreat_ag ag hL hN]
    rcases (show wh = 0 ∨ wh = 1 ∨ wh = 2 ∨ wh = 3 by omega) with rfl | rfl | rfl | rfl
    · rfl
    · rfl
    · rfl
    · rfl
end ZF2
