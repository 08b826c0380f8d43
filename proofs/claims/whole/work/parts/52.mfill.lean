/-! the reference fills -/
theorem mput_ag {J : zMem} {S : zS} {wo c w t : Int} (h : zAg (mS J wo) S) (c0 : 0 ≤ c) (c1 : c < J 115 2) (hN : J 115 2 ≤ 6) (w0 : 1 ≤ w) (w1 : w ≤ J 115 0) : zAg (mS (mput J c w t) wo) (sPut S c w t) := by
  refine zAg_trans ?_ (sPut_ag h t c0 c1 w0 w1)
  have e115 : mput J c w t 115 = J 115 := mput_b (by decide)
  have e117 : mput J c w t 117 = J 117 := mput_b (by decide)
  have e137 : mput J c w t 137 = J 137 := mput_b (by decide)
  have eA : mA (mput J c w t) wo = mA J wo := mA_ext (by rw [e115]) (mput_b (by decide)) (mput_b (by decide))
  have e6 : ∀ j : Int, 0 ≤ j → j < 6 → mput J c w t 122 (6 + j) = if j = c then w else J 122 (6 + j) := fun j j0 j1 => by
    unfold mput
    rw [zu_ni (by omega)]
    by_cases e : j = c
    · rw [if_pos e, e, zu_eq]
    · rw [if_neg e, zu_ni (by omega)]
  have e12 : ∀ j : Int, 0 ≤ j → j < 6 → mput J c w t 122 (12 + j) = if j = c then t else J 122 (12 + j) := fun j j0 j1 => by
    unfold mput
    by_cases e : j = c
    · rw [if_pos e, e, zu_eq]
    · rw [if_neg e, zu_ni (by omega), zu_ni (by omega)]
  refine ⟨?_, ?_, ?_, fun j j0 j1 => ⟨?_, fun v v0 v1 => ?_, fun a a0 a1 => ?_, ?_, fun q => ⟨?_, ?_⟩⟩⟩
  · show mput J c w t 115 2 = J 115 2
    rw [e115]
  · show mput J c w t 115 0 = J 115 0
    rw [e115]
  · show mput J c w t 115 1 = J 115 1
    rw [e115]
  · show mput J c w t 117 j = J 117 j
    rw [e117]
  · show mput J c w t 137 (9 * j + v) = J 137 (9 * j + v)
    rw [e137]
  · show mA (mput J c w t) wo a j = mA J wo a j
    rw [eA]
  · have j1 : j < mput J c w t 115 2 := j1
    rw [e115] at j1
    exact e6 j j0 (by omega)
  · have j1 : j < mput J c w t 115 2 := j1
    rw [e115] at j1
    exact e12 j j0 (by omega)
  · have j1 : j < mput J c w t 115 2 := j1
    rw [e115] at j1
    show mput J c w t 122 (12 + j) + mput J c w t 137 (9 * j + mput J c w t 122 (6 + j)) = if j = c then t + J 137 (9 * c + w) else J 122 (12 + j) + J 137 (9 * j + J 122 (6 + j))
    rw [e6 j j0 (by omega), e12 j j0 (by omega), e137]
    by_cases e : j = c
    · rw [if_pos e, if_pos e, if_pos e, e]
    · rw [if_neg e, if_neg e, if_neg e]
/-- a reference whose plan is good -/
theorem mPl_gd {I : zMem} {wo : Int} (hg : zGd (mS I wo)) (hk : ∀ c : Int, 0 ≤ c → c < I 115 2 → (0 ≤ I 122 c ∧ I 122 c ≤ 3) ∧ (¬ 0 < I 122 (6 + c) → I 122 (12 + c) = 0)) : mPl I := fun c c0 c1 => by
  obtain ⟨g1, g2, g3, g4, g5⟩ := hg.2.2.2 c c0 c1
  have k := hk c c0 c1
  have hN : I 115 2 ≤ 6 := hg.1.2
  refine ⟨k.1, g4, ?_⟩
  by_cases q : 0 < I 122 (6 + c)
  · have g := (g5 q).1
    have g : 0 ≤ I 122 (12 + c) ∧ I 122 (12 + c) ≤ 99999 + 30000 * c := g
    omega
  · rw [k.2 q]
    omega
theorem zGd_ag {S S' : zS} (h : zAg S S') (g : zGd S) : zGd S' := by
  obtain ⟨h1, h2, h3, h4⟩ := h
  obtain ⟨g1, g2, g3, g4⟩ := g
  unfold zGd
  rw [← h1, ← h2, ← h3]
  refine ⟨g1, g2, g3, fun c c0 c1 => ?_⟩
  obtain ⟨k1, k2, k3, k4, k5⟩ := h4 c c0 c1
  obtain ⟨j1, j2, j3, j4, j5⟩ := g4 c c0 c1
  refine ⟨by rw [← k1]; exact j1, fun w w0 w1 => by rw [← k2 w w0 w1]; exact j2 w w0 w1, fun a a0 a1 a2 => j3 a a0 a1 (by rw [k3 a a0 a1]; exact a2), by rw [← k4]; exact j4, fun q => ?_⟩
  rw [← k4] at q
  rw [← k4, ← (k5 q).1, ← (k5 q).2, ← k2 (sW S c) (by omega) j4.2]
  exact j5 q
theorem fRun_skip (S : zS) (k : Nat) : ∀ m : Nat, (∀ i : Int, (k : Int) ≤ i → i < k + m → 0 < sW S i) → fRun S (k + m) = fRun S k := by
  intro m
  induction m with
  | zero => intro _; rfl
  | succ m ih =>
    intro h
    have e := ih (fun i i0 i1 => h i i0 (by omega))
    have e2 : fRun S (k + (m + 1)) = if ¬ (fRun S (k + m)).2.2 = -4 ∨ 0 < sW S ((k + m : Nat) : Int) then fRun S (k + m) else if (sFl (fRun S (k + m)).1 ((k + m : Nat) : Int) 2000000 (sL S).toNat).1 = 0 then ((fRun S (k + m)).1, (fRun S (k + m)).2.1, ((k + m : Nat) : Int))
      else (sPut (fRun S (k + m)).1 ((k + m : Nat) : Int) (sFl (fRun S (k + m)).1 ((k + m : Nat) : Int) 2000000 (sL S).toNat).1 (sFl (fRun S (k + m)).1 ((k + m : Nat) : Int) 2000000 (sL S).toNat).2.1, (fRun S (k + m)).2.1 + 1, -4) := rfl
    rw [e2, if_pos (Or.inr (h _ (by omega) (by omega))), e]
/-- going on to the next core that is not put changes nothing in what has been done -/
theorem fRun_next {S T : zS} (hg : zGd T) {k : Nat} (hk : (k : Int) ≤ sN S) (ha : zAg T (fRun S k).1) (hs : (fRun S k).2.2 = -4) : (sNext T = -4 ∧ fRun S (sN S).toNat = fRun S k) ∨ (0 ≤ sNext T ∧ sNext T < sN S ∧ ¬ 0 < sW T (sNext T) ∧ ¬ 0 < sW S (sNext T) ∧ (k : Int) ≤ sNext T ∧ fRun S (sNext T).toNat = fRun S k) := by
  obtain ⟨k1, -, -, -, k5, -, -⟩ := fRun_keep S k
  have kN : sN (fRun S k).1 = sN S := by unfold sN; rw [k1]
  have hN : sN T = sN S := ha.1.trans kN
  have hw : ∀ c : Int, 0 ≤ c → c < sN S → sW T c = sW (fRun S k).1 c := fun c c0 c1 => (ha.2.2.2 c c0 (by omega)).2.2.2.1
  have hp := fRun_put S k hs
  rcases sNext_low hg with ⟨h1, h2⟩ | ⟨h1, h2, h3, h4⟩
  · refine Or.inl ⟨h1, ?_⟩
    have := fRun_skip S k ((sN S).toNat - k) (fun i i0 i1 => by
      have q := h2 i (by omega) (by omega)
      rw [hw i (by omega) (by omega), (k5 i (Or.inl i0)).1] at q
      exact q)
    rwa [show k + ((sN S).toNat - k) = (sN S).toNat by omega] at this
  · generalize sNext T = c at *
    have hkc : (k : Int) ≤ c := Classical.byContradiction (fun q => by
      have := hp c h1 (by omega)
      rw [← hw c h1 (by omega)] at this
      exact h3 this)
    have h3' : ¬ 0 < sW S c := fun q => by
      rw [← (k5 c (Or.inl hkc)).1, ← hw c h1 (by omega)] at q
      exact h3 q
    refine Or.inr ⟨h1, by omega, h3, h3', hkc, ?_⟩
    have := fRun_skip S k (c.toNat - k) (fun i i0 i1 => by
      have q := h4 i (by omega) (by omega)
      rw [hw i (by omega) (by omega), (k5 i (Or.inl i0)).1] at q
      exact q)
    rwa [show k + (c.toNat - k) = c.toNat by omega] at this
/-- noted, what is told apart -/
def mNote2 (I I' : zMem) (r : Int → Int) : Prop := I' 115 12 = (if I 115 12 < 8 then I 115 12 else 7) + 1 ∧ (∀ j : Int, j ≠ 12 → j ≠ 38 → I' 115 j = I 115 j) ∧
  (∀ k j : Int, 0 ≤ k → k < (if I 115 12 < 8 then I 115 12 else 7) → 0 ≤ j → j < 18 → I' 123 (18 * k + j) = I 123 (18 * (if I 115 12 < 8 then k else k + 1) + j)) ∧
  (∀ j : Int, 0 ≤ j → j < 18 → I' 123 (18 * (if I 115 12 < 8 then I 115 12 else 7) + j) = r j)
theorem mNote2_of {I K I' : zMem} {r r' : Int → Int} (h : mNote K I' r) (h1 : ∀ j : Int, j ≠ 38 → K 115 j = I 115 j) (h2 : K 123 = I 123) (h3 : ∀ j : Int, 0 ≤ j → j < 18 → r j = r' j) : mNote2 I I' r' := by
  obtain ⟨a, b, c, d⟩ := h
  rw [h1 12 (by decide)] at a c d
  rw [h2] at c
  exact ⟨a, fun j j1 j2 => (b j j1).trans (h1 j j2), c, fun j j0 j1 => (d j j0 j1).trans (h3 j j0 j1)⟩
/-- filled, or stuck: z by fRun -/
def mFillP (I : zMem) (r : Int) (I' : zMem) : Prop := ∃ (K : zMem) (z : zS × Int × Int), mSt I K ∧ mTaken K ∧ z = fRun (mS K (-4)) (I 115 2).toNat ∧ (∀ b : Nat, b ≠ 115 → b ≠ 122 → b ≠ 123 → b ≠ 126 → b ≠ 135 → b ≠ 136 → b ≠ 137 → b ≠ 138 → b ≠ 139 → I' b = I b) ∧
    ((¬ z.2.2 = -4 ∧ r = -2 ∧ (∀ j : Int, j ≠ 18 → j ≠ 38 → I' 115 j = I 115 j) ∧ I' 115 18 = 4 ∧ I' 126 0 = 20 + z.2.1 ∧ I' 126 1 = 10 + z.2.2 ∧ I' 126 2 = sRea z.1 z.2.2 1 (sLen z.1 (I 115 2).toNat) ∧ I' 126 3 = sTold z.1 (sRea z.1 z.2.2 1 (sLen z.1 (I 115 2).toNat)) z.2.2 1 (sLen z.1 (I 115 2).toNat) ∧ (∀ j : Int, 0 ≤ j → j < 18 → I' 122 j = I 122 j) ∧ I' 123 = I 123) ∨
     (z.2.2 = -4 ∧ r = sLen z.1 (I 115 2).toNat ∧ mNote2 I I' (I 122) ∧ I' 126 = I 126 ∧ (∀ c : Int, 0 ≤ c → c < I 115 2 → I' 122 c = I 122 c ∧ I' 122 (6 + c) = sW z.1 c ∧ (0 < sW z.1 c → I' 122 (12 + c) = sF z.1 c) ∧ (¬ 0 < sW z.1 c → I' 122 (12 + c) = 0))))
theorem mPl_gd2 {I : zMem} {S : zS} {wo : Int} (ha : zAg (mS I wo) S) (hg : zGd S) (hk : ∀ c : Int, 0 ≤ c → c < I 115 2 → (0 ≤ I 122 c ∧ I 122 c ≤ 3) ∧ (¬ 0 < I 122 (6 + c) → I 122 (12 + c) = 0)) : mPl I := mPl_gd (wo := wo) (zGd_ag (zAg_symm ha) hg) hk
set_option maxHeartbeats 4000000 in
set_option maxRecDepth 100000 in
theorem c_X10_fill {G : zG} {d n : Nat} {I : zMem} {R : zRef} (hW : zWir n R) (hn : 143 ≤ n) (hch : mCh I) (hu : 0 ≤ I 115 12 ∧ I 115 12 ≤ 8) (hg : ∀ J, mSt I J → mTaken J → zGd (mS J (-4))) (hk : ∀ c : Int, 0 ≤ c → c < I 115 2 → (0 ≤ I 122 c ∧ I 122 c ≤ 3) ∧ (¬ 0 < I 122 (6 + c) → I 122 (12 + c) = 0)) : MT G mX10_fill (d + 6) 0 0 [zR 115] n I R (zP1 (fun r I' R' => mFillP I r I' ∧ R' = R)) := by
  refine MT.of (by decide +kernel) tX10_fill_ok (Nat.le_of_ble_eq_true rfl) (fun hI0 => ?_)
  have hco := hch.1
  have hli := hch.2.1
  have loop : ∀ (K K6 : zMem), mSt I K → mTaken K → (∀ b : Nat, b ≠ 138 → K6 b = K b) → (∀ j : Int, 0 ≤ j → j < 18 → K6 138 j = I 122 j) → zGd (mS K (-4)) →
      ∀ (m : Nat) (J : zMem) (k : Nat) (n9 c : Int), (I 115 2 - k).toNat < m → (k : Int) ≤ I 115 2 → zAg (mS J (-4)) (fRun (mS K (-4)) k).1 → (fRun (mS K (-4)) k).2 = (n9, -4) → c = sNext (mS J (-4)) →
        (∀ b : Nat, b ≠ 115 → b ≠ 122 → J b = K6 b) → (∀ j : Int, j ≠ 38 → J 115 j = I 115 j) → (∀ j : Int, 0 ≤ j → j < 6 → J 122 j = I 122 j) → (∀ c : Int, 0 ≤ c → c < I 115 2 → ¬ 0 < J 122 (6 + c) → J 122 (12 + c) = 0) →
        WP G mX10_fill (d + 6) 0 0 0 0 16 [some (zR 115), some (zI n9), some (zI c)] [] n J R (zP1 (fun r I' R' => mFillP I r I' ∧ R' = R)) := by
    intro K K6 hK ht h6 h6a hgd m
    induction m with
    | zero => intro J k n9 c hm; omega
    | succ m ih =>
      intro J k n9 c hm hkN hag hz hc hf hf2 hf3 hf4
      have fI : ∀ b : Nat, b ≠ 115 → b ≠ 122 → b ≠ 135 → b ≠ 136 → b ≠ 137 → b ≠ 138 → J b = I b := fun b b1 b2 b3 b4 b5 b6 => by rw [hf b b1 b2, h6 b b6, hK b b3 b4 b5]
      have e2 : J 115 2 = I 115 2 := hf2 2 (by decide)
      have e0 : J 115 0 = I 115 0 := hf2 0 (by decide)
      have sN0 : sN (mS K (-4)) = I 115 2 := by show K 115 2 = _; rw [hK 115 (by decide) (by decide) (by decide)]
      have sL0 : sL (mS K (-4)) = I 115 0 := by show K 115 0 = _; rw [hK 115 (by decide) (by decide) (by decide)]
      have hgk := fRun_gd hgd k (by rw [sN0]; exact hkN)
      have hgJ : zGd (mS J (-4)) := zGd_ag (zAg_symm hag) hgk
      have hchJ : mCh J := by
        unfold mCh at hch ⊢
        rw [hf2 0 (by decide), hf2 1 (by decide), hf2 2 (by decide), hf2 3 (by decide), fI 116 (by decide) (by decide) (by decide) (by decide) (by decide) (by decide), fI 117 (by decide) (by decide) (by decide) (by decide) (by decide) (by decide), fI 118 (by decide) (by decide) (by decide) (by decide) (by decide) (by decide), fI 119 (by decide) (by decide) (by decide) (by decide) (by decide) (by decide)]
        exact hch
      have hkJ : ∀ c : Int, 0 ≤ c → c < J 115 2 → (0 ≤ J 122 c ∧ J 122 c ≤ 3) ∧ (¬ 0 < J 122 (6 + c) → J 122 (12 + c) = 0) := fun c c0 c1 => ⟨by rw [hf3 c c0 (by omega)]; exact (hk c c0 (by omega)).1, hf4 c c0 (by omega)⟩
      have hplJ := mPl_gd hgJ hkJ
      have htkJ : mTk J := fun a w a0 a1 w0 w1 => (hgJ.2.2.2 a a0 a1).2.1 w w0 w1
      have nx := fRun_next (S := mS K (-4)) hgJ (k := k) (by rw [sN0]; exact hkN) hag (by rw [hz])
      rw [← hc, sN0] at nx
      have hcz : zin c := by rcases nx with q | q <;> (unfold zin; omega)
      have hlenag : ∀ q : Nat, (q : Int) ≤ I 115 2 → sLen (mS J (-4)) q = sLen (fRun (mS K (-4)) k).1 q := fun q hq => sLen_ag hag q (by show (q : Int) ≤ J 115 2; omega)
      have hn9 := (fRun_keep (mS K (-4)) k).2.2.2.2.2.1
      rw [hz] at hn9
      have hn9 : 0 ≤ n9 ∧ n9 ≤ (k : Int) := hn9
      refine wp_canon (fun hI0 => ?_)
      refine wp_iload_n (t := 10) rfl rfl ?_
      refine wp_if_lt (t := 11) (tgt := 102) rfl (by decide) hcz (fun h17 => ?_) (fun h17 => ?_)
      · refine wp_aload_n (t := 61) rfl rfl ?_
        refine wp_vi (ci := 10) (c_X10_lengthOf (wo := -4) (d := d + 4) hW hn hchJ hplJ htkJ) (t := 62) rfl kX10_261 rfl rfl (by omega) (by first | rfl | assumption) ⟨_, _, rfl⟩ (Nat.le_of_ble_eq_true rfl) ⟨Nat.le_refl _, Nat.le_refl _⟩ (fun r103 I103 R103 c103 => ?_)
        refine wp_canon (fun hI1 => ?_)
        obtain ⟨e103, b103, zi103, zr103⟩ := c103
        have zi103 := zi103.symm
        subst zi103
        have zr103 := zr103.symm
        subst zr103
        refine wp_istore_n (t := 63) rfl (by decide) rfl ?_
        refine wp_aload_n (t := 64) rfl rfl ?_
        refine wp_vv (ci := 10) (c_X10_keepFilled (d := d + 4) hW hn (by rw [hf2 12 (by decide)]; exact hu)) (t := 65) rfl kX10_277 rfl rfl (by omega) (by first | rfl | assumption) ⟨_, _, rfl⟩ (Nat.le_of_ble_eq_true rfl) ⟨Nat.le_refl _, Nat.le_refl _⟩ (fun I108 R108 c108 => ?_)
        refine wp_canon (fun hI2 => ?_)
        obtain ⟨⟨⟨rr, q1, q2⟩, q3, q4⟩, zr108⟩ := c108
        have zr108 := zr108.symm
        subst zr108
        refine wp_iload_n (t := 66) rfl rfl ?_
        refine wp_ireturn (t := 67) rfl rfl ?_
        have nx1 : fRun (mS K (-4)) (I 115 2).toNat = fRun (mS K (-4)) k := by rcases nx with q | q; exact q.2; omega
        refine ⟨_, rfl, ⟨K, _, hK, ht, rfl, fun b b1 b2 b3 b4 b5 b6 b7 b8 b9 => ?_, ?_⟩, rfl⟩
        · rw [q4 b b1 b2 b3 b9]
          exact fI b b1 b2 b5 b6 b7 b8
        rw [nx1, hz]
        refine Or.inr ⟨rfl, ?_, mNote2_of q2 hf2 (fI 123 (by decide) (by decide) (by decide) (by decide) (by decide) (by decide)) (fun j j0 j1 => by rw [q1 j j0 j1, hf 138 (by decide) (by decide)]; exact h6a j j0 j1), ?_, fun a a0 a1 => ?_⟩
        · rw [e103, e2]
          exact hlenag _ (by omega)
        · rw [q4 126 (by decide) (by decide) (by decide) (by decide)]
          exact fI 126 (by decide) (by decide) (by decide) (by decide) (by decide) (by decide)
        · obtain ⟨g1, g2, g3, g4, g5⟩ := hag.2.2.2 a a0 (by show a < J 115 2; omega)
          have g4 : J 122 (6 + a) = sW (fRun (mS K (-4)) k).1 a := g4
          rw [q3 a a0 (by omega), q3 (6 + a) (by omega) (by omega), q3 (12 + a) (by omega) (by omega), ← g4]
          exact ⟨hf3 a a0 (by omega), rfl, fun q => (g5 q).1, hf4 a a0 a1⟩
      · have nx2 : 0 ≤ c ∧ c < I 115 2 ∧ ¬ 0 < J 122 (6 + c) ∧ ¬ 0 < sW (mS K (-4)) c ∧ (k : Int) ≤ c ∧ fRun (mS K (-4)) c.toNat = fRun (mS K (-4)) k := by
          rcases nx with q | ⟨p1, p2, p3, p4⟩
          · omega
          · exact ⟨p1, p2, p3, p4⟩
        obtain ⟨c0, c1, cput, cput0, ck, ce⟩ := nx2
        refine wp_aload_n (t := 12) rfl rfl ?_
        refine wp_iload_n (t := 13) rfl rfl ?_
        refine wp_bipush (t := 14) rfl (by decide) ?_
        refine wp_vi (ci := 10) (c_X10_fills (wo := -4) (d := d) hW hn hchJ hplJ htkJ ⟨c0, by omega⟩ (by unfold zin; omega) cput) (t := 15) rfl kX10_274 rfl rfl (by omega) (by first | rfl | assumption) ⟨_, _, rfl⟩ (Nat.le_of_ble_eq_true rfl) ⟨Nat.le_refl _, Nat.le_refl _⟩ (fun r24 I24 R24 c24 => ?_)
        refine wp_canon (fun hI1 => ?_)
        obtain ⟨c24, zr24⟩ := c24
        have zr24 := zr24.symm
        subst zr24
        have ef : sFl (mS J (-4)) c 2000000 (J 115 0).toNat = sFl (fRun (mS K (-4)) k).1 c 2000000 (I 115 0).toNat := by rw [e0]; exact sFl_ag hag _ c0 (by show c < J 115 2; omega) _ (by show ((I 115 0).toNat : Int) ≤ J 115 0; omega)
        rw [ef] at c24
        have fs := fRun_succ (mS K (-4)) c0
        rw [ce, hz, sL0] at fs
        rw [if_neg (fun q => by rcases q with q | q; exact q rfl; exact cput0 q)] at fs
        have b24 : 0 ≤ r24 ∧ r24 ≤ 1 := by rcases c24 with q | q <;> omega
        refine wp_if_ne (t := 16) (tgt := 91) rfl (by decide) (by first | assumption | exact hI1 _ _ | exact hI0 _ _ | exact zin_and _ _ | (unfold zin; omega) | (unfold zin at *; omega)) (fun h27 => ?_) (fun h27 => ?_)
        · have c24 : (sFl (fRun (mS K (-4)) k).1 c 2000000 (I 115 0).toNat).1 ≠ 0 ∧ mSm (mput J c (sFl (fRun (mS K (-4)) k).1 c 2000000 (I 115 0).toNat).1 (sFl (fRun (mS K (-4)) k).1 c 2000000 (I 115 0).toNat).2.1) I24 := by rcases c24 with q | q; omega; exact q.2
          obtain ⟨zq, sm⟩ := c24
          rw [if_neg zq] at fs
          have sp := (sFl_spec (S := (fRun (mS K (-4)) k).1) (c := c) (y := 2000000) (I 115 0).toNat).2.2
          have sp2 : 1 ≤ (sFl (fRun (mS K (-4)) k).1 c 2000000 (I 115 0).toNat).1 ∧ (sFl (fRun (mS K (-4)) k).1 c 2000000 (I 115 0).toNat).1 ≤ I 115 0 := by rcases sp with q | q; exact absurd q.1 zq; omega
          generalize sFl (fRun (mS K (-4)) k).1 c 2000000 (I 115 0).toNat = zz at *
          have hag9 : zAg (mS I24 (-4)) (fRun (mS K (-4)) (c + 1).toNat).1 := by
            rw [fs, mSm_S sm]
            exact mput_ag hag c0 (by omega) (by omega) sp2.1 (by omega)
          have chI : mCh I24 := mSm_Ch sm (by unfold mCh at hchJ ⊢; rw [mput_b (by decide), mput_b (by decide), mput_b (by decide), mput_b (by decide), mput_b (by decide)]; exact hchJ)
          have i115 : ∀ j : Int, j ≠ 38 → I24 115 j = I 115 j := fun j hj => by rw [sm.2 j hj, mput_b (by decide)]; exact hf2 j hj
          have e122 : ∀ j : Int, I24 122 j = mput J c zz.1 zz.2.1 122 j := fun j => by rw [sm.1 122 (by decide)]
          refine wp_iinc (t := 56) rfl rfl (by decide) rfl ?_
          refine wp_aload_n (t := 57) rfl rfl ?_
          refine wp_vi (ci := 10) (c_X10_nextCore (d := d + 4) hW hn chI) (t := 58) rfl kX10_271 rfl rfl (by omega) (by first | rfl | assumption) ⟨_, _, rfl⟩ (Nat.le_of_ble_eq_true rfl) ⟨Nat.le_refl _, Nat.le_refl _⟩ (fun r95 I95 R95 c95 => ?_)
          refine wp_canon (fun hI2 => ?_)
          obtain ⟨e95, zi95, zr95⟩ := c95
          have zi95 := zi95.symm
          subst zi95
          have zr95 := zr95.symm
          subst zr95
          refine wp_istore_n (t := 59) rfl (by decide) rfl ?_
          refine wp_goto (t := 60) (tgt := 16) rfl (by decide) ?_
          refine ih I24 (c + 1).toNat (n9 + 1) _ (by omega) (by omega) hag9 (by rw [fs]) e95 (fun b b1 b2 => by rw [sm.1 b b1, mput_b b2]; exact hf b b1 b2) i115 (fun j j0 j1 => ?_) (fun a a0 a1 => ?_)
          · rw [e122]
            unfold mput
            rw [zu_ni (by omega), zu_ni (by omega)]
            exact hf3 j j0 j1
          · rw [e122, e122]
            unfold mput
            by_cases e : a = c
            · rw [e, zu_ni (by omega), zu_eq]
              intro q
              omega
            · rw [zu_ni (by omega), zu_ni (by omega), zu_ni (by omega), zu_ni (by omega)]
              exact hf4 a a0 a1
        · have c24 : (sFl (fRun (mS K (-4)) k).1 c 2000000 (I 115 0).toNat).1 = 0 ∧ mSm J I24 := by rcases c24 with q | q; exact q.2; omega
          obtain ⟨zq, sm⟩ := c24
          rw [if_pos zq] at fs
          have fN : fRun (mS K (-4)) (I 115 2).toNat = ((fRun (mS K (-4)) k).1, n9, c) := by
            have st : ∀ q : Nat, fRun (mS K (-4)) ((c + 1).toNat + q) = ((fRun (mS K (-4)) k).1, n9, c) := fun q => by
              induction q with
              | zero => exact fs
              | succ q ihq =>
                have e2 : fRun (mS K (-4)) ((c + 1).toNat + (q + 1)) = if ¬ (fRun (mS K (-4)) ((c + 1).toNat + q)).2.2 = -4 ∨ 0 < sW (mS K (-4)) (((c + 1).toNat + q : Nat) : Int) then fRun (mS K (-4)) ((c + 1).toNat + q) else _ := rfl
                rw [e2, ihq, if_pos (Or.inl (by show ¬ c = -4; omega))]
            have := st ((I 115 2).toNat - (c + 1).toNat)
            rwa [show (c + 1).toNat + ((I 115 2).toNat - (c + 1).toNat) = (I 115 2).toNat by omega] at this
          have smS : mS I24 (-4) = mS J (-4) := mSm_S sm
          have hM : ∀ M : zMem, (∀ b : Nat, b ≠ 126 → M b = I24 b) → mS M (-4) = mS J (-4) ∧ mCh M ∧ mPl M ∧ mTk M := fun M hM => by
            refine ⟨(mS_ext (fun j _ _ => by rw [hM 115 (by decide)]) (hM 117 (by decide)) (hM 120 (by decide)) (hM 121 (by decide)) (hM 122 (by decide)) (hM 137 (by decide))).trans smS, ?_, ?_, ?_⟩
            · have := mSm_Ch sm hchJ
              unfold mCh at this ⊢
              rw [hM 115 (by decide), hM 116 (by decide), hM 117 (by decide), hM 118 (by decide), hM 119 (by decide)]
              exact this
            · have := mSm_Pl sm hplJ
              unfold mPl at this ⊢
              rw [hM 115 (by decide), hM 122 (by decide)]
              exact this
            · have := mSm_Tk sm htkJ
              unfold mTk at this ⊢
              rw [hM 115 (by decide), hM 137 (by decide)]
              exact this
          have M1 := hM (zu (zu I24 126 0 (20 + n9)) 126 1 (10 + c)) (fun b hb => by rw [zu_ne hb, zu_ne hb])
          have m2 : zu (zu I24 126 0 (20 + n9)) 126 1 (10 + c) 115 2 = I 115 2 := by rw [zu_ne (by decide), zu_ne (by decide), sm.2 2 (by decide)]; exact e2
          have m0 : zu (zu I24 126 0 (20 + n9)) 126 1 (10 + c) 115 0 = I 115 0 := by rw [zu_ne (by decide), zu_ne (by decide), sm.2 0 (by decide)]; exact e0
          refine wp_aload_n (t := 17) rfl rfl ?_
          refine wp_getR (t := 18) (ji := 17) rfl fX10_40 rfl rfl (by omega) (by first | rfl | assumption) (by first | exact hW _ _ _ (by omega) rfl | assumption) ?_
          refine wp_iconst (t := 19) rfl ?_
          refine wp_bipush (t := 20) rfl (by decide) ?_
          refine wp_iload_n (t := 21) rfl rfl ?_
          refine wp_iadd (t := 22) rfl ?_
          refine wp_iastore (t := 23) rfl (by omega) (by first | rfl | assumption) (by omega) (by omega) (by omega) (by first | assumption | exact hI1 _ _ | exact hI0 _ _ | exact zin_and _ _ | (unfold zin; omega) | (unfold zin at *; omega)) ?_
          refine wp_canon (fun hI2 => ?_)
          refine wp_aload_n (t := 24) rfl rfl ?_
          refine wp_getR (t := 25) (ji := 17) rfl fX10_40 rfl rfl (by omega) (by first | rfl | assumption) (by first | exact hW _ _ _ (by omega) rfl | assumption) ?_
          refine wp_iconst (t := 26) rfl ?_
          refine wp_bipush (t := 27) rfl (by decide) ?_
          refine wp_iload_n (t := 28) rfl rfl ?_
          refine wp_iadd (t := 29) rfl ?_
          refine wp_iastore (t := 30) rfl (by omega) (by first | rfl | assumption) (by omega) (by omega) (by omega) (by first | assumption | exact hI2 _ _ | exact hI1 _ _ | exact hI0 _ _ | exact zin_and _ _ | (unfold zin; omega) | (unfold zin at *; omega)) ?_
          refine wp_canon (fun hI3 => ?_)
          refine wp_aload_n (t := 31) rfl rfl ?_
          refine wp_getR (t := 32) (ji := 17) rfl fX10_40 rfl rfl (by omega) (by first | rfl | assumption) (by first | exact hW _ _ _ (by omega) rfl | assumption) ?_
          refine wp_iconst (t := 33) rfl ?_
          refine wp_aload_n (t := 34) rfl rfl ?_
          refine wp_iload_n (t := 35) rfl rfl ?_
          refine wp_iconst (t := 36) rfl ?_
          refine wp_aload_n (t := 37) rfl rfl ?_
          refine wp_vi8 (ci := 10) (c_X10_lengthOf (wo := -4) (d := d + 4) hW hn M1.2.1 M1.2.2.1 M1.2.2.2) (t := 38) rfl kX10_261 rfl rfl (by omega) (by first | rfl | assumption) ⟨_, _, rfl⟩ (Nat.le_of_ble_eq_true rfl) ⟨Nat.le_refl _, Nat.le_refl _⟩ rfl (fun r59 I59 R59 c59 => ?_)
          refine wp_canon (fun hI4 => ?_)
          obtain ⟨e59, b59, zi59, zr59⟩ := c59
          have zi59 := zi59.symm
          subst zi59
          have zr59 := zr59.symm
          subst zr59
          rw [M1.1, m2, hlenag _ (by omega)] at e59
          refine wp_bipush (t := 39) rfl (by decide) ?_
          refine wp_vi (ci := 10) (c_X10_judge (wo := -4) (d := d + 2) hW hn M1.2.1 M1.2.2.1 M1.2.2.2 ⟨c0, by rw [m2]; exact c1⟩ ⟨by omega, by rw [m0]; omega⟩ ⟨by omega, by omega⟩ (by unfold zin; omega)) (t := 40) rfl kX10_245 rfl rfl (by omega) (by first | rfl | assumption) ⟨_, _, rfl⟩ (Nat.le_of_ble_eq_true rfl) ⟨Nat.le_refl _, Nat.le_refl _⟩ (fun r64 I64 R64 c64 => ?_)
          refine wp_canon (fun hI5 => ?_)
          obtain ⟨e64, zi64, zr64⟩ := c64
          have zr64 := zr64.symm
          subst zr64
          rw [M1.1, sRea_ag hag _ c0 (by show c < J 115 2; omega) (by omega) (by show 1 ≤ J 115 0; omega)] at e64
          rw [M1.1, sTold_ag hag _ _ c0 (by show c < J 115 2; omega) (by omega) (by show 1 ≤ J 115 0; omega)] at zi64
          have b64 : 0 ≤ r64 ∧ r64 ≤ 4 := by rw [e64]; exact sRea_b _ _ _ _
          have i126 : I64 126 = zu (zu I24 126 0 (20 + n9)) 126 1 (10 + c) 126 := by rw [zi64]; exact zu_ne (by decide)
          have i38 : I64 115 38 = sTold (fRun (mS K (-4)) k).1 r64 c 1 r59 := by rw [zi64]; exact zu_eq
          have iO : ∀ b : Nat, b ≠ 115 → b ≠ 126 → I64 b = J b := fun b b1 b2 => by rw [zi64, zu_ne b1, zu_ne b2, zu_ne b2]; exact sm.1 b b1
          have i115 : ∀ j : Int, j ≠ 38 → I64 115 j = I 115 j := fun j hj => by rw [zi64, zu_ni hj, zu_ne (by decide), zu_ne (by decide), sm.2 j hj]; exact hf2 j hj
          refine wp_iastore (t := 41) rfl (by omega) (by first | rfl | assumption) (by omega) (by omega) (by omega) (by first | assumption | exact hI5 _ _ | exact hI4 _ _ | exact hI3 _ _ | exact hI2 _ _ | exact hI1 _ _ | exact hI0 _ _ | exact zin_and _ _ | (unfold zin; omega) | (unfold zin at *; omega)) ?_
          refine wp_canon (fun hI6 => ?_)
          refine wp_aload_n (t := 42) rfl rfl ?_
          refine wp_getR (t := 43) (ji := 17) rfl fX10_40 rfl rfl (by omega) (by first | rfl | assumption) (by first | exact hW _ _ _ (by omega) rfl | assumption) ?_
          refine wp_iconst (t := 44) rfl ?_
          refine wp_aload_n (t := 45) rfl rfl ?_
          refine wp_getI (t := 46) (ji := 38) rfl fX10_234 rfl rfl (by omega) (by first | rfl | assumption) ?_
          rw [show zu I64 126 2 r64 115 38 = I64 115 38 by rw [zu_ne (by decide)]]
          refine wp_iastore (t := 47) rfl (by omega) (by first | rfl | assumption) (by omega) (by omega) (by omega) (by first | assumption | exact hI6 _ _ | exact hI5 _ _ | exact hI4 _ _ | exact hI3 _ _ | exact hI2 _ _ | exact hI1 _ _ | exact hI0 _ _ | exact zin_and _ _ | (unfold zin; omega) | (unfold zin at *; omega)) ?_
          refine wp_canon (fun hI7 => ?_)
          refine wp_aload_n (t := 48) rfl rfl ?_
          refine wp_iconst (t := 49) rfl ?_
          refine wp_putI (t := 50) (ji := 18) rfl fX10_197 p10_18 rfl rfl (by omega) (by first | rfl | assumption) (by first | assumption | exact hI7 _ _ | exact hI6 _ _ | exact hI5 _ _ | exact hI4 _ _ | exact hI3 _ _ | exact hI2 _ _ | exact hI1 _ _ | exact hI0 _ _ | exact zin_and _ _ | (unfold zin; omega) | (unfold zin at *; omega)) ?_
          refine wp_canon (fun hI8 => ?_)
          refine wp_aload_n (t := 51) rfl rfl ?_
          refine wp_iconst (t := 52) rfl ?_
          refine wp_vv (ci := 10) (c_X10_putAside (bk := 1) (d := d + 5) hW hn (Or.inr rfl)) (t := 53) rfl kX10_267 rfl rfl (by omega) (by first | rfl | assumption) ⟨_, _, rfl⟩ (Nat.le_of_ble_eq_true rfl) ⟨Nat.le_refl _, Nat.le_refl _⟩ (fun I85 R85 c85 => ?_)
          refine wp_canon (fun hI9 => ?_)
          obtain ⟨⟨-, p85⟩, zr85⟩ := c85
          have zr85 := zr85.symm
          subst zr85
          obtain ⟨f85, s85⟩ := p85 rfl
          refine wp_bipush (t := 54) rfl (by decide) ?_
          refine wp_ireturn (t := 55) rfl rfl ?_
          refine ⟨_, rfl, ⟨K, _, hK, ht, rfl, fun b b1 b2 b3 b4 b5 b6 b7 b8 b9 => ?_, ?_⟩, rfl⟩
          · rw [f85 b b2, zu_ne b1, zu_ne b4, zu_ne b4, iO b b1 b4]
            exact fI b b1 b2 b5 b6 b7 b8
          rw [fN]
          refine Or.inl ⟨by show ¬ c = -4; omega, rfl, fun j j1 j2 => ?_, ?_, ?_, ?_, ?_, ?_, fun j j0 j1 => ?_, ?_⟩
          · rw [f85 115 (by decide), zu_ni j1, zu_ne (by decide), zu_ne (by decide)]
            exact i115 j j2
          · rw [f85 115 (by decide), zu_eq]
          · rw [f85 126 (by decide), zu_ne (by decide), zu_ni (by decide), zu_ni (by decide), i126, zu_ni (by decide), zu_eq]
          · rw [f85 126 (by decide), zu_ne (by decide), zu_ni (by decide), zu_ni (by decide), i126, zu_eq]
          · rw [f85 126 (by decide), zu_ne (by decide), zu_ni (by decide), zu_eq, ← e59]
            exact e64
          · rw [f85 126 (by decide), zu_ne (by decide), zu_eq, i38, ← e59]
            show _ = sTold (fRun (mS K (-4)) k).1 (sRea (fRun (mS K (-4)) k).1 c 1 r59) c 1 r59
            rw [← e64]
          · rw [s85 j j0 j1, zu_ne (by decide), zu_ne (by decide), zu_ne (by decide), iO 138 (by decide) (by decide), hf 138 (by decide) (by decide)]
            exact h6a j j0 j1
          · rw [f85 123 (by decide), zu_ne (by decide), zu_ne (by decide), zu_ne (by decide), iO 123 (by decide) (by decide)]
            exact fI 123 (by decide) (by decide) (by decide) (by decide) (by decide) (by decide)
  refine wp_ls (ls' := [some (zR 115), none, none]) rfl ?_
  refine wp_aload_n (t := 0) rfl rfl ?_
  refine wp_vv (ci := 10) (c_X10_layTakes (d := d + 3) hW hn hch) (t := 1) rfl kX10_209 rfl rfl (by omega) (by first | rfl | assumption) ⟨_, _, rfl⟩ (Nat.le_of_ble_eq_true rfl) ⟨Nat.le_refl _, Nat.le_refl _⟩ (fun I1 R1 c1 => ?_)
  refine wp_canon (fun hI1 => ?_)
  obtain ⟨⟨sm1, ht1⟩, zr1⟩ := c1
  have zr1 := zr1.symm
  subst zr1
  refine wp_aload_n (t := 2) rfl rfl ?_
  refine wp_iconst (t := 3) rfl ?_
  refine wp_vv (ci := 10) (c_X10_putAside (bk := 0) (d := d + 5) hW hn (Or.inl rfl)) (t := 4) rfl kX10_267 rfl rfl (by omega) (by first | rfl | assumption) ⟨_, _, rfl⟩ (Nat.le_of_ble_eq_true rfl) ⟨Nat.le_refl _, Nat.le_refl _⟩ (fun I6 R6 c6 => ?_)
  refine wp_canon (fun hI2 => ?_)
  obtain ⟨⟨p6, -⟩, zr6⟩ := c6
  have zr6 := zr6.symm
  subst zr6
  obtain ⟨f6, s6⟩ := p6 rfl
  have i115 : I6 115 = I 115 := (f6 115 (by decide)).trans (sm1 115 (by decide) (by decide) (by decide))
  have i122 : I6 122 = I 122 := (f6 122 (by decide)).trans (sm1 122 (by decide) (by decide) (by decide))
  have eS : mS I6 (-4) = mS I1 (-4) := mS_ext (fun j _ _ => by rw [f6 115 (by decide)]) (f6 117 (by decide)) (f6 120 (by decide)) (f6 121 (by decide)) (f6 122 (by decide)) (f6 137 (by decide))
  have hchJ : mCh I6 := by
    unfold mCh at hch ⊢
    rw [i115, f6 116 (by decide), f6 117 (by decide), f6 118 (by decide), f6 119 (by decide), sm1 116 (by decide) (by decide) (by decide), sm1 117 (by decide) (by decide) (by decide), sm1 118 (by decide) (by decide) (by decide), sm1 119 (by decide) (by decide) (by decide)]
    exact hch
  refine wp_iconst (t := 5) rfl ?_
  refine wp_istore_n (t := 6) rfl (by decide) rfl ?_
  refine wp_aload_n (t := 7) rfl rfl ?_
  refine wp_vi (ci := 10) (c_X10_nextCore (d := d + 4) hW hn hchJ) (t := 8) rfl kX10_271 rfl rfl (by omega) (by first | rfl | assumption) ⟨_, _, rfl⟩ (Nat.le_of_ble_eq_true rfl) ⟨Nat.le_refl _, Nat.le_refl _⟩ (fun r12 I12 R12 c12 => ?_)
  refine wp_canon (fun hI3 => ?_)
  obtain ⟨e12, zi12, zr12⟩ := c12
  have zi12 := zi12.symm
  subst zi12
  have zr12 := zr12.symm
  subst zr12
  refine wp_istore_n (t := 9) rfl (by decide) rfl ?_
  exact loop I1 I6 sm1 ht1 f6 (fun j j0 j1 => by rw [s6 j j0 j1, sm1 122 (by decide) (by decide) (by decide)]) (hg I1 sm1 ht1) _ I6 0 0 _ (Nat.lt_succ_self _) (by omega) (by rw [eS]; exact zAg_refl _) rfl e12 (fun _ _ _ => rfl) (fun j _ => by rw [i115]) (fun j _ _ => by rw [i122]) (fun a a0 a1 => by rw [i122]; exact (hk a a0 a1).2)
