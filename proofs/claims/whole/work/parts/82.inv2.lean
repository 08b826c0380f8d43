/-! the two plans agree -/
theorem iMt {I K : zMem} (hc : iCh I) (s : mSt I K) (t : mTaken K) {c w : Int} (c0 : 0 ≤ c) (c1 : c < I 34 2) (w0 : 1 ≤ w) (w1 : w ≤ I 34 0) : K 137 (9 * c + w) = tkOf (I 122 c) (I 36 c) (I (49 + c.toNat) w) := by
  have e115 : K 115 = I 115 := s 115 (by decide) (by decide) (by decide)
  have e := hc.2.2.1
  rw [t c w c0 (by rw [e115, e.2.2.1]; exact c1) w0 (by rw [e115, e.1]; exact w1), s 122 (by decide) (by decide) (by decide), mTo_ext (s 116 (by decide) (by decide) (by decide)) (s 118 (by decide) (by decide) (by decide)) (s 119 (by decide) (by decide) (by decide))]
  exact iTo hc c0 c1 w0 w1
theorem iAg {I K : zMem} (hc : iCh I) (hp : iPl I) (s : mSt I K) (t : mTaken K) : zAg (cS I 64) (mS K (-4)) := by
  have e115 : K 115 = I 115 := s 115 (by decide) (by decide) (by decide)
  have e122 : K 122 = I 122 := s 122 (by decide) (by decide) (by decide)
  have e := hc.2.2.1
  have hz := hc.1
  have n6 := hz.1
  refine ⟨?_, ?_, ?_, fun c c0 c1 => ?_⟩
  · show I 34 2 = K 115 2
    rw [e115, e.2.2.1]
  · show I 34 0 = K 115 0
    rw [e115, e.1]
  · show I 34 1 = K 115 1
    rw [e115, e.2.1]
  · have c1 : c < I 34 2 := c1
    obtain ⟨⟨r1, r2, r3, r4⟩, p1, p2, p3⟩ := hp.1 c c0 c1
    have ce := hc.2.2.2.1 c c0 c1
    refine ⟨?_, fun w w0 w1 => ?_, fun a a0 a1 => ?_, ?_, fun hw => ?_⟩
    · show I 37 c = K 117 c
      rw [s 117 (by decide) (by decide) (by decide)]
      exact ce.2.1.symm
    · rw [cS_T ⟨c0, by omega⟩]
      show _ = K 137 (9 * c + w)
      rw [iMt hc s t c0 c1 w0 w1, p1]
    · have a1 : a < I 34 2 := a1
      show zbt (I 69 c) a = mA K (-4) a c
      rw [mA_ext (by rw [e115]) (s 120 (by decide) (by decide) (by decide)) (s 121 (by decide) (by decide) (by decide)), mA_bA hc, Bool.eq_iff_iff, bA_iff]
      exact (hp.2 c c0 (by omega)).2 a a0 (by omega)
    · show I 66 c = K 122 (6 + c)
      rw [e122, p2]
    · have hw : 0 < I 66 c := hw
      refine ⟨?_, ?_⟩
      · show I 67 c = K 122 (12 + c)
        rw [e122, p3]
      · show I 68 c = K 122 (12 + c) + K 137 (9 * c + K 122 (6 + c))
        rw [e122, p2, p3, iMt hc s t c0 c1 hw r2.2, p1]
        exact (r4 hw).2
theorem iZPl {I : zMem} (hc : iCh I) (hp : iPl I) : zPl I 64 := by
  have hz := hc.1
  have n6 := hz.1
  intro c c0 c1
  obtain ⟨⟨r1, r2, r3, r4⟩, p1, p2, p3⟩ := hp.1 c c0 c1
  have f := hz.2.2.2.2.1 c c0 c1
  refine ⟨r1, r2, ?_, ?_, (hp.2 c c0 (by omega)).1⟩
  · show 0 ≤ I 67 c ∧ I 67 c ≤ 1000000
    by_cases q : 0 < I 66 c
    · have := (r4 q).1
      omega
    · have := (r3 q).1
      omega
  · show 0 ≤ I 68 c ∧ I 68 c ≤ 1010000
    by_cases q : 0 < I 66 c
    · have := r4 q
      have b := tk_b r1 f.1 (f.2.2.2.2 (I 66 c) q r2.2)
      omega
    · have := (r3 q).2
      omega
theorem iGd {I : zMem} (hc : iCh I) (hp : iPl I) : zGd (cS I 64) := by
  have hz := hc.1
  have n6 := hz.1
  refine ⟨hz.1, hz.2.1, hz.2.2.1, fun c c0 c1 => ?_⟩
  have c1 : c < I 34 2 := c1
  obtain ⟨⟨r1, r2, r3, r4⟩, p1, p2, p3⟩ := hp.1 c c0 c1
  have f := hz.2.2.2.2.1 c c0 c1
  refine ⟨f.2.1, fun w w0 w1 => ?_, fun a a0 a1 ha => ?_, r2, fun hw => ⟨(r4 hw).1, ?_⟩⟩
  · rw [cS_T ⟨c0, by omega⟩]
    exact tk_b r1 f.1 (f.2.2.2.2 w w0 w1)
  · obtain ⟨b, b0, b1, -, b2, b3⟩ := ((hp.2 c c0 (by omega)).2 a a0 (by have : a < I 34 2 := a1; omega)).mp ha
    have := hz.2.2.2.2.2 b b0 b1
    omega
  · rw [cS_T ⟨c0, by omega⟩]
    exact (r4 hw).2
theorem bGd {I : zMem} (hz : zCh I) {ka : Int → Int} (lo : Int) (hk : ∀ c : Int, 0 ≤ c → c < I 34 2 → 0 ≤ ka c ∧ ka c ≤ 3) : zGd (bS I ka lo) := by
  refine ⟨hz.1, hz.2.1, hz.2.2.1, fun c c0 c1 => ?_⟩
  have c1 : c < I 34 2 := c1
  have f := hz.2.2.2.2.1 c c0 c1
  refine ⟨f.2.1, fun w w0 w1 => tk_b (hk c c0 c1) f.1 (f.2.2.2.2 w w0 w1), fun a a0 a1 ha => ?_, ⟨Int.le_refl _, by have := hz.2.1; show (0 : Int) ≤ I 34 0; omega⟩, fun hw => absurd hw (by show ¬ (0 : Int) < 0; omega)⟩
  obtain ⟨b, b0, b1, -, b2, b3⟩ := bA_iff.mp (show bA I lo a c = true from ha)
  have := hz.2.2.2.2.2 b b0 b1
  omega
theorem bA_none {I : zMem} {lo lo' : Int} (h : lo < 0) (h' : lo' < 0) (a c : Int) : bA I lo a c = bA I lo' a c := by
  rw [Bool.eq_iff_iff, bA_iff, bA_iff]
  constructor
  · rintro ⟨b, b0, b1, -, b2, b3⟩
    exact ⟨b, b0, b1, by omega, b2, b3⟩
  · rintro ⟨b, b0, b1, -, b2, b3⟩
    exact ⟨b, b0, b1, by omega, b2, b3⟩
theorem bAg {I K : zMem} {lo wo : Int} {ka : Int → Int} (hc : iCh I) (hk : ∀ c : Int, 0 ≤ c → c < I 34 2 → I 122 c = ka c) (s : mSt I K) (t : mTaken K) (hl : lo = wo ∨ (lo < 0 ∧ wo < 0)) : zAg (bS I ka lo) (zClr (mS K wo)) := by
  have e115 : K 115 = I 115 := s 115 (by decide) (by decide) (by decide)
  have e := hc.2.2.1
  refine ⟨?_, ?_, ?_, fun c c0 c1 => ?_⟩
  · show I 34 2 = K 115 2
    rw [e115, e.2.2.1]
  · show I 34 0 = K 115 0
    rw [e115, e.1]
  · show I 34 1 = K 115 1
    rw [e115, e.2.1]
  · have c1 : c < I 34 2 := c1
    have ce := hc.2.2.2.1 c c0 c1
    refine ⟨?_, fun w w0 w1 => ?_, fun a a0 a1 => ?_, rfl, fun hw => absurd hw (by show ¬ (0 : Int) < 0; omega)⟩
    · show I 37 c = K 117 c
      rw [s 117 (by decide) (by decide) (by decide)]
      exact ce.2.1.symm
    · show tkOf (ka c) (I 36 c) (I (49 + c.toNat) w) = K 137 (9 * c + w)
      rw [iMt hc s t c0 c1 w0 w1, hk c c0 c1]
    · show bA I lo a c = mA K wo a c
      rw [mA_ext (by rw [e115]) (s 120 (by decide) (by decide) (by decide)) (s 121 (by decide) (by decide) (by decide)), mA_bA hc]
      rcases hl with rfl | ⟨l1, l2⟩
      · rfl
      · exact bA_none l1 l2 a c
theorem bAg2 {I J : zMem} {lo : Int} {ka : Int → Int} (hI : ∀ b : Nat, 34 ≤ b → b ≤ 63 → J b = I b) (hz : zCh J) (hk : ∀ c : Int, 0 ≤ c → c < I 34 2 → J 87 c = ka c) (h0 : ∀ c : Int, 0 ≤ c → c < 6 → J 88 c = 0 ∧ J 89 c = 0 ∧ J 90 c = 0 ∧ ∀ a : Int, 0 ≤ a → a < 6 → (zbt (J 91 c) a = true ↔ ∃ b : Int, 0 ≤ b ∧ b < I 34 3 ∧ b ≠ lo ∧ I 46 b = a ∧ I 47 b = c)) : zAg (cS J 86) (bS I ka lo) := by
  have e34 := hI 34 (by omega) (by omega)
  have n6 := hz.1
  rw [e34] at n6
  refine ⟨?_, ?_, ?_, fun c c0 c1 => ?_⟩
  · show J 34 2 = I 34 2
    rw [e34]
  · show J 34 0 = I 34 0
    rw [e34]
  · show J 34 1 = I 34 1
    rw [e34]
  · have c1 : c < J 34 2 := c1
    rw [e34] at c1
    obtain ⟨z1, z2, z3, z4⟩ := h0 c c0 (by omega)
    refine ⟨?_, fun w w0 w1 => ?_, fun a a0 a1 => ?_, z1, fun hw => absurd hw (by show ¬ 0 < J 88 c; omega)⟩
    · show J 37 c = I 37 c
      rw [hI 37 (by omega) (by omega)]
    · rw [cS_T ⟨c0, by omega⟩]
      show tkOf (J 87 c) (J 36 c) (J (49 + c.toNat) w) = tkOf (ka c) (I 36 c) (I (49 + c.toNat) w)
      rw [hk c c0 c1, hI 36 (by omega) (by omega), hI (49 + c.toNat) (by omega) (by omega)]
    · have a1 : a < J 34 2 := a1
      rw [e34] at a1
      show zbt (J 91 c) a = bA I lo a c
      rw [Bool.eq_iff_iff, bA_iff]
      exact z4 a a0 (by omega)
/-- the search's answers are the reference's -/
theorem bBok {I : zMem} (hz : zCh I) : zBok (bB I) I := by
  refine ⟨fun ka kb lo r o o' hk ho h => ?_, fun ka lo J o bo hI hzJ hpl hk hlo hd h0 => ?_⟩
  · have ag : zAg (bS I ka lo) (bS I kb lo) := ⟨rfl, rfl, rfl, fun c c0 c1 => ⟨rfl, fun w _ _ => by
      show tkOf (ka c) _ _ = tkOf (kb c) _ _
      rw [hk c c0 c1], fun _ _ _ => rfl, rfl, fun _ => ⟨rfl, rfl⟩⟩⟩
    have e := bFo_ag ag (show 0 ≤ I 34 0 by have := hz.2.1; omega) hz.1 _ (Nat.le_refl _)
    have e : bFo (bS I ka lo) (I 34 2) (zQn (I 34 2) + 1) = bFo (bS I kb lo) (I 34 2) (zQn (I 34 2) + 1) := e
    unfold bB at h ⊢
    rw [← e]
    exact ⟨h.1, fun c c0 c1 => (ho c c0 c1).symm.trans (h.2 c c0 c1)⟩
  · have e34 := hI 34 (by omega) (by omega)
    have ag := bAg2 hI hzJ (fun c c0 c1 => (hk c c0 c1).1) h0
    have hgJ : zGd (cS J 86) := zGd_ag (zAg_symm ag) (bGd hz lo (fun c c0 c1 => (hk c c0 c1).2))
    have e := bFo_ag ag (show 0 ≤ J 34 0 by have := hzJ.2.1; omega) hzJ.1 _ (Nat.le_refl _)
    have n : sN (cS J 86) = I 34 2 := by show J 34 2 = I 34 2; rw [e34]
    have w := tTry_bFo hgJ (fun c c0 c1 => (h0 c c0 (by rw [n] at c1; have := hz.1; omega)).1) (fun c c0 c1 => by
      show J 37 c ≤ J 34 1
      rw [hI 37 (by omega) (by omega), e34]
      rw [n] at c1
      exact hd c c0 c1) o bo
    rw [n] at e w
    rw [e] at w
    exact ⟨w.1, fun c c0 c1 => w.2.1 c c0 c1⟩
