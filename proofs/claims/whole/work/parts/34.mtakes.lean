/-! the reference: the table of what is taken; stairs; bounds -/
theorem mLp_ext {I J : zMem} {c w : Int} {t : Nat} (h8 : J 118 = I 118) (h9 : J 119 = I 119) : mLp J c w t = mLp I c w t := by
  unfold mLp mLn
  rw [h8, h9]
theorem mTo_ext {I J : zMem} {k c w : Int} (h6 : J 116 = I 116) (h8 : J 118 = I 118) (h9 : J 119 = I 119) : mTo J k c w = mTo I k c w := by
  unfold mTo
  rw [mLp_ext h8 h9, h6, h8]
/-- the table of what is taken holds -/
def mTaken (I : zMem) : Prop := ∀ c w : Int, 0 ≤ c → c < I 115 2 → 1 ≤ w → w ≤ I 115 0 → I 137 (9 * c + w) = mTo I (I 122 c) c w
/-- all but the scratch of wrapping and the table -/
def mSt (I J : zMem) : Prop := ∀ b : Nat, b ≠ 135 → b ≠ 136 → b ≠ 137 → J b = I b
theorem mCh_wc {I : zMem} (h : mCh I) {c : Int} (h0 : 0 ≤ c) (h1 : c < I 115 2) : mWc I c := ⟨(h.2.2.2.2 c h0 h1).2.2.1, (h.2.2.2.2 c h0 h1).2.2.2⟩
theorem mTo_b {I : zMem} (h : mCh I) {k c w : Int} (h0 : 0 ≤ c) (h1 : c < I 115 2) (hw : 1 ≤ w ∧ w ≤ 8) : 2 ≤ mTo I k c w ∧ mTo I k c w ≤ 2234 := by
  have g := h.2.2.2.2 c h0 h1
  obtain ⟨b1, b2, b3, -⟩ := zlp_b (len := mLn I c) (n := (I 118 c).toNat) (w := w.toNat) (by omega) (fun i i0 i1 => g.2.2.2 i i0 (by omega)) (I 118 c).toNat (Nat.le_refl _)
  have b3 := b3 (by omega)
  exact tkOf_b g.1 ⟨b3, by show (zlp (mLn I c) (I 118 c).toNat w.toNat (I 118 c).toNat).2.2 ≤ 54; omega⟩
theorem mTaken_Tk {I : zMem} (h : mCh I) (ht : mTaken I) : mTk I := fun c w c0 c1 w0 w1 => by
  have hli := h.2.1
  rw [ht c w c0 c1 w0 w1]
  exact mTo_b h c0 c1 ⟨w0, by omega⟩
set_option maxHeartbeats 4000000 in
set_option maxRecDepth 100000 in
theorem c_X10_layTakes {G : zG} {d n : Nat} {I : zMem} {R : zRef} (hW : zWir n R) (hn : 143 ≤ n) (hch : mCh I) : MT G mX10_layTakes (d + 2) 0 0 [zR 115] n I R (zP0 (fun I' R' => (mSt I I' ∧ mTaken I') ∧ R' = R)) := by
  refine MT.of (by decide +kernel) tX10_layTakes_ok (Nat.le_of_ble_eq_true rfl) (fun hI0 => ?_)
  have hco := hch.1
  have hli := hch.2.1
  have key : ∀ (m : Nat) (c : Int) (J : zMem) (x2 : Option zV), 0 ≤ c → c ≤ I 115 2 → (I 115 2 - c).toNat = m → mSt I J → (∀ a w : Int, 0 ≤ a → a < c → 1 ≤ w → w ≤ I 115 0 → J 137 (9 * a + w) = mTo I (I 122 a) a w) →
      WP G mX10_layTakes (d + 2) 0 0 0 0 2 [some (zR 115), some (zI c), x2] [] n J R (zP0 (fun I' R' => (mSt I I' ∧ mTaken I') ∧ R' = R)) := by
    intro m
    induction m with
    | zero =>
      intro c J x2 h0 h1 hm sm hs
      have e115 : J 115 = I 115 := sm 115 (by decide) (by decide) (by decide)
      have e122 : J 122 = I 122 := sm 122 (by decide) (by decide) (by decide)
      refine wp_canon (fun hI0 => ?_)
      refine wp_iload_n (t := 2) rfl rfl ?_
      refine wp_aload_n (t := 3) rfl rfl ?_
      refine wp_getI (t := 4) (ji := 2) rfl fX10_115 rfl rfl (by omega) (by first | rfl | assumption) ?_
      rw [e115]
      refine wp_icmp_ge (t := 5) (tgt := 57) rfl (by decide) (by first | assumption | exact hI0 _ _ | exact zin_and _ _ | (unfold zin; omega) | (unfold zin at *; omega)) (by first | assumption | exact hI0 _ _ | exact zin_and _ _ | (unfold zin; omega) | (unfold zin at *; omega)) (fun h7 => ?_) (fun h7 => ?_)
      · refine wp_return (t := 34) rfl rfl ?_
        refine ⟨rfl, ⟨sm, fun a w a0 a1 w0 w1 => ?_⟩, rfl⟩
        rw [e115] at a1 w1
        rw [mTo_ext (sm 116 (by decide) (by decide) (by decide)) (sm 118 (by decide) (by decide) (by decide)) (sm 119 (by decide) (by decide) (by decide)), e122]
        exact hs a w a0 (by omega) w0 w1
      · exact absurd h7 (by omega)
    | succ m ih =>
      intro c J x2 h0 h1 hm sm hs
      have e115 : J 115 = I 115 := sm 115 (by decide) (by decide) (by decide)
      have inner : ∀ (k : Nat) (w : Int) (J : zMem), 1 ≤ w → w ≤ I 115 0 + 1 → (I 115 0 + 1 - w).toNat = k → c < I 115 2 → mSt I J → (∀ a w : Int, 0 ≤ a → a < c → 1 ≤ w → w ≤ I 115 0 → J 137 (9 * a + w) = mTo I (I 122 a) a w) → (∀ v : Int, 1 ≤ v → v < w → J 137 (9 * c + v) = mTo I (I 122 c) c v) →
          WP G mX10_layTakes (d + 2) 0 0 0 0 12 [some (zR 115), some (zI c), some (zI w)] [] n J R (zP0 (fun I' R' => (mSt I I' ∧ mTaken I') ∧ R' = R)) := by
        intro k
        induction k with
        | zero =>
          intro w J w0 w1 hk hc9 sm hs hv
          have e115 : J 115 = I 115 := sm 115 (by decide) (by decide) (by decide)
          refine wp_canon (fun hI0 => ?_)
          refine wp_iload_n (t := 8) rfl rfl ?_
          refine wp_aload_n (t := 9) rfl rfl ?_
          refine wp_getI (t := 10) (ji := 0) rfl fX10_91 rfl rfl (by omega) (by first | rfl | assumption) ?_
          rw [e115]
          refine wp_icmp_gt (t := 11) (tgt := 51) rfl (by decide) (by first | assumption | exact hI0 _ _ | exact zin_and _ _ | (unfold zin; omega) | (unfold zin at *; omega)) (by first | assumption | exact hI0 _ _ | exact zin_and _ _ | (unfold zin; omega) | (unfold zin at *; omega)) (fun h17 => ?_) (fun h17 => ?_)
          · refine wp_iinc (t := 32) rfl rfl (by decide) rfl ?_
            refine wp_goto (t := 33) (tgt := 2) rfl (by decide) ?_
            refine ih (c + 1) J _ (by omega) (by omega) (by omega) sm (fun a v a0 a1 v0 v1 => ?_)
            by_cases e : a = c
            · rw [e]
              exact hv v v0 (by omega)
            · exact hs a v a0 (by omega) v0 v1
          · exact absurd h17 (by omega)
        | succ k ihk =>
          intro w J w0 w1 hk hc9 sm hs hv
          have e115 : J 115 = I 115 := sm 115 (by decide) (by decide) (by decide)
          have e116 : J 116 = I 116 := sm 116 (by decide) (by decide) (by decide)
          have e118 : J 118 = I 118 := sm 118 (by decide) (by decide) (by decide)
          have e119 : J 119 = I 119 := sm 119 (by decide) (by decide) (by decide)
          have e122 : J 122 = I 122 := sm 122 (by decide) (by decide) (by decide)
          have hcc := hch.2.2.2.2 c h0 hc9
          have hwl : w ≤ I 115 0 := by omega
          refine wp_canon (fun hI0 => ?_)
          refine wp_iload_n (t := 8) rfl rfl ?_
          refine wp_aload_n (t := 9) rfl rfl ?_
          refine wp_getI (t := 10) (ji := 0) rfl fX10_91 rfl rfl (by omega) (by first | rfl | assumption) ?_
          rw [e115]
          refine wp_icmp_gt (t := 11) (tgt := 51) rfl (by decide) (by first | assumption | exact hI0 _ _ | exact zin_and _ _ | (unfold zin; omega) | (unfold zin at *; omega)) (by first | assumption | exact hI0 _ _ | exact zin_and _ _ | (unfold zin; omega) | (unfold zin at *; omega)) (fun h17 => ?_) (fun h17 => ?_)
          · exact absurd h17 (by omega)
          · refine wp_aload_n (t := 12) rfl rfl ?_
            refine wp_getR (t := 13) (ji := 36) rfl fX10_73 rfl rfl (by omega) (by first | rfl | assumption) (by first | exact hW _ _ _ (by omega) rfl | assumption) ?_
            refine wp_bipush (t := 14) rfl (by decide) ?_
            refine wp_iload_n (t := 15) rfl rfl ?_
            refine wp_imul (t := 16) rfl ?_
            refine wp_iload_n (t := 17) rfl rfl ?_
            refine wp_iadd (t := 18) rfl ?_
            refine wp_aload_n (t := 19) rfl rfl ?_
            refine wp_aload_n (t := 20) rfl rfl ?_
            refine wp_getR (t := 21) (ji := 10) rfl fX10_28 rfl rfl (by omega) (by first | rfl | assumption) (by first | exact hW _ _ _ (by omega) rfl | assumption) ?_
            refine wp_iconst (t := 22) rfl ?_
            refine wp_iload_n (t := 23) rfl rfl ?_
            refine wp_iadd (t := 24) rfl ?_
            refine wp_iaload (t := 25) rfl (by omega) (by first | rfl | assumption) (by omega) (by omega) (by omega) ?_
            rw [e122, Int.zero_add]
            refine wp_iload_n (t := 26) rfl rfl ?_
            refine wp_iload_n (t := 27) rfl rfl ?_
            refine wp_vi (ci := 10) (c_X10_takesBy (d := d) hW hn ⟨h0, by omega⟩ ⟨w0, by omega⟩ (by unfold mWc; rw [e118, e119]; exact ⟨hcc.2.2.1, hcc.2.2.2⟩) (by rw [e116]; exact hcc.1) (by rw [← e122]; exact hI0 _ _)) (t := 28) rfl kX10_205 rfl rfl (by omega) (by first | rfl | assumption) ⟨_, _, rfl⟩ (Nat.le_of_ble_eq_true rfl) ⟨Nat.le_refl _, Nat.le_refl _⟩ (fun r41 I41 R41 c41 => ?_)
            refine wp_canon (fun hI1 => ?_)
            obtain ⟨⟨e41, b41, sm41⟩, zr41⟩ := c41
            have zr41 := zr41.symm
            subst zr41
            have e41 : r41 = mTo I (I 122 c) c w := by rw [e41, mTo_ext e116 e118 e119]
            have i137 : I41 137 = J 137 := sm41 137 (by decide) (by decide)
            refine wp_iastore (t := 29) rfl (by omega) (by first | rfl | assumption) (by omega) (by omega) (by omega) (by first | assumption | exact hI1 _ _ | exact hI0 _ _ | exact zin_and _ _ | (unfold zin; omega) | (unfold zin at *; omega)) ?_
            refine wp_canon (fun hI2 => ?_)
            refine wp_iinc (t := 30) rfl rfl (by decide) rfl ?_
            refine wp_goto (t := 31) (tgt := 12) rfl (by decide) ?_
            refine ihk (w + 1) _ (by omega) (by omega) (by omega) hc9 (fun b b1 b2 b3 => by rw [zu_ne b3, sm41 b b1 b2]; exact sm b b1 b2 b3) (fun a v a0 a1 v0 v1 => ?_) (fun v v0 v1 => ?_)
            · rw [zu_ni (by omega), i137]
              exact hs a v a0 a1 v0 v1
            · by_cases e : v = w
              · rw [e, zu_eq, e41]
              · rw [zu_ni (by omega), i137]
                exact hv v v0 (by omega)
      refine wp_canon (fun hI0 => ?_)
      refine wp_iload_n (t := 2) rfl rfl ?_
      refine wp_aload_n (t := 3) rfl rfl ?_
      refine wp_getI (t := 4) (ji := 2) rfl fX10_115 rfl rfl (by omega) (by first | rfl | assumption) ?_
      rw [e115]
      refine wp_icmp_ge (t := 5) (tgt := 57) rfl (by decide) (by first | assumption | exact hI0 _ _ | exact zin_and _ _ | (unfold zin; omega) | (unfold zin at *; omega)) (by first | assumption | exact hI0 _ _ | exact zin_and _ _ | (unfold zin; omega) | (unfold zin at *; omega)) (fun h7 => ?_) (fun h7 => ?_)
      · exact absurd h7 (by omega)
      · refine wp_iconst (t := 6) rfl ?_
        refine wp_istore_n (t := 7) rfl (by decide) rfl ?_
        exact inner _ 1 J (by omega) (by omega) rfl (by omega) sm hs (fun v v0 v1 => absurd v1 (by omega))
  refine wp_ls (ls' := [some (zR 115), none, none]) rfl ?_
  refine wp_iconst (t := 0) rfl ?_
  refine wp_istore_n (t := 1) rfl (by decide) rfl ?_
  exact key _ 0 I none (by omega) (by omega) rfl (fun _ _ _ _ => rfl) (fun a w a0 a1 => absurd a1 (by omega))
theorem mLeast_b {I : zMem} {wo c : Int} (hch : mCh I) (htk : mTk I) (h0 : 0 ≤ c) (h1 : c < I 115 2) : 2 ≤ sLeast (mS I wo) c ∧ sLeast (mS I wo) c ≤ 2234 := by
  have hli := hch.2.1
  have := zminf_b (f := sT (mS I wo) c) (A := 2) (B := 2234) (by omega) (by omega) (I 115 0).toNat (fun w w0 w1 => htk c w h0 h1 w0 (by omega))
  show 2 ≤ zminf (sT (mS I wo) c) (I 115 0).toNat ∧ zminf (sT (mS I wo) c) (I 115 0).toNat ≤ 2234
  omega
set_option maxHeartbeats 4000000 in
set_option maxRecDepth 100000 in
theorem c_X10_leastTakes {G : zG} {d n : Nat} {I : zMem} {R : zRef} {wo c : Int} (hW : zWir n R) (hn : 143 ≤ n) (hch : mCh I) (htk : mTk I) (hc : 0 ≤ c ∧ c < I 115 2) : MT G mX10_leastTakes d 0 0 [zR 115, zI c] n I R (zP1 (fun r I' R' => r = sLeast (mS I wo) c ∧ I' = I ∧ R' = R)) := by
  refine MT.of (by decide +kernel) tX10_leastTakes_ok (Nat.le_of_ble_eq_true rfl) (fun hI0 => ?_)
  have hco := hch.1
  have hli := hch.2.1
  have key : ∀ (m : Nat) (w s : Int), 2 ≤ w → w ≤ I 115 0 + 1 → (I 115 0 + 1 - w).toNat = m → s = zminf (sT (mS I wo) c) (w - 1).toNat → 2 ≤ s ∧ s ≤ 2234 → WP G mX10_leastTakes d 0 0 0 0 14 [some (zR 115), some (zI c), some (zI s), some (zI w)] [] n I R (zP1 (fun r I' R' => r = sLeast (mS I wo) c ∧ I' = I ∧ R' = R)) := by
    intro m
    induction m with
    | zero =>
      intro w s h0 h1 hm hs hb
      refine wp_iload_n (t := 11) rfl rfl ?_
      refine wp_aload_n (t := 12) rfl rfl ?_
      refine wp_getI (t := 13) (ji := 0) rfl fX10_91 rfl rfl (by omega) (by first | rfl | assumption) ?_
      refine wp_icmp_gt (t := 14) (tgt := 59) rfl (by decide) (by first | assumption | exact hI0 _ _ | exact zin_and _ _ | (unfold zin; omega) | (unfold zin at *; omega)) (by first | assumption | exact hI0 _ _ | exact zin_and _ _ | (unfold zin; omega) | (unfold zin at *; omega)) (fun h19 => ?_) (fun h19 => ?_)
      · refine wp_iload_n (t := 38) rfl rfl ?_
        refine wp_ireturn (t := 39) rfl rfl ?_
        exact ⟨_, rfl, by rw [hs, show w - 1 = I 115 0 by omega]; rfl, rfl, rfl⟩
      · exact absurd h19 (by omega)
    | succ m ih =>
      intro w s h0 h1 hm hs hb
      have hT := htk c w hc.1 hc.2 (by omega) (by omega)
      have hz := zminf_succ (sT (mS I wo) c) (w := w) (by omega)
      rw [← hs] at hz
      have hz : zminf (sT (mS I wo) c) w.toNat = min s (I 137 (9 * c + w)) := hz
      refine wp_iload_n (t := 11) rfl rfl ?_
      refine wp_aload_n (t := 12) rfl rfl ?_
      refine wp_getI (t := 13) (ji := 0) rfl fX10_91 rfl rfl (by omega) (by first | rfl | assumption) ?_
      refine wp_icmp_gt (t := 14) (tgt := 59) rfl (by decide) (by first | assumption | exact hI0 _ _ | exact zin_and _ _ | (unfold zin; omega) | (unfold zin at *; omega)) (by first | assumption | exact hI0 _ _ | exact zin_and _ _ | (unfold zin; omega) | (unfold zin at *; omega)) (fun h19 => ?_) (fun h19 => ?_)
      · exact absurd h19 (by omega)
      · refine wp_aload_n (t := 15) rfl rfl ?_
        refine wp_getR (t := 16) (ji := 36) rfl fX10_73 rfl rfl (by omega) (by first | rfl | assumption) (by first | exact hW _ _ _ (by omega) rfl | assumption) ?_
        refine wp_bipush (t := 17) rfl (by decide) ?_
        refine wp_iload_n (t := 18) rfl rfl ?_
        refine wp_imul (t := 19) rfl ?_
        refine wp_iload_n (t := 20) rfl rfl ?_
        refine wp_iadd (t := 21) rfl ?_
        refine wp_iaload (t := 22) rfl (by omega) (by first | rfl | assumption) (by omega) (by omega) (by omega) ?_
        refine wp_iload_n (t := 23) rfl rfl ?_
        refine wp_icmp_ge (t := 24) (tgt := 51) rfl (by decide) (by first | assumption | exact hI0 _ _ | exact zin_and _ _ | (unfold zin; omega) | (unfold zin at *; omega)) (by first | assumption | exact hI0 _ _ | exact zin_and _ _ | (unfold zin; omega) | (unfold zin at *; omega)) (fun h34 => ?_) (fun h34 => ?_)
        · refine wp_iload_n (t := 34) rfl rfl ?_
          refine wp_istore_n (t := 35) rfl (by decide) rfl ?_
          refine wp_iinc (t := 36) rfl rfl (by decide) rfl ?_
          refine wp_goto (t := 37) (tgt := 14) rfl (by decide) ?_
          exact ih (w + 1) _ (by omega) (by omega) (by omega) (by rw [show w + 1 - 1 = w by omega, hz]; omega) (by omega)
        · refine wp_aload_n (t := 25) rfl rfl ?_
          refine wp_getR (t := 26) (ji := 36) rfl fX10_73 rfl rfl (by omega) (by first | rfl | assumption) (by first | exact hW _ _ _ (by omega) rfl | assumption) ?_
          refine wp_bipush (t := 27) rfl (by decide) ?_
          refine wp_iload_n (t := 28) rfl rfl ?_
          refine wp_imul (t := 29) rfl ?_
          refine wp_iload_n (t := 30) rfl rfl ?_
          refine wp_iadd (t := 31) rfl ?_
          refine wp_iaload (t := 32) rfl (by omega) (by first | rfl | assumption) (by omega) (by omega) (by omega) ?_
          refine wp_goto (t := 33) (tgt := 52) rfl (by decide) ?_
          refine wp_istore_n (t := 35) rfl (by decide) rfl ?_
          refine wp_iinc (t := 36) rfl rfl (by decide) rfl ?_
          refine wp_goto (t := 37) (tgt := 14) rfl (by decide) ?_
          exact ih (w + 1) _ (by omega) (by omega) (by omega) (by rw [show w + 1 - 1 = w by omega, hz]; omega) (by omega)
  have hT1 := htk c 1 hc.1 hc.2 (by omega) (by omega)
  refine wp_ls (ls' := [some (zR 115), some (zI c), none, none]) rfl ?_
  refine wp_aload_n (t := 0) rfl rfl ?_
  refine wp_getR (t := 1) (ji := 36) rfl fX10_73 rfl rfl (by omega) (by first | rfl | assumption) (by first | exact hW _ _ _ (by omega) rfl | assumption) ?_
  refine wp_bipush (t := 2) rfl (by decide) ?_
  refine wp_iload_n (t := 3) rfl rfl ?_
  refine wp_imul (t := 4) rfl ?_
  refine wp_iconst (t := 5) rfl ?_
  refine wp_iadd (t := 6) rfl ?_
  refine wp_iaload (t := 7) rfl (by omega) (by first | rfl | assumption) (by omega) (by omega) (by omega) ?_
  refine wp_istore_n (t := 8) rfl (by decide) rfl ?_
  refine wp_iconst (t := 9) rfl ?_
  refine wp_istore_n (t := 10) rfl (by decide) rfl ?_
  exact key _ 2 _ (by omega) (by omega) rfl (by show _ = min 1000000 (I 137 (9 * c + 1)); omega) (by omega)
theorem zior_zero {x : Int} (h : 0 ≤ x ∧ x < 512) : zior x 0 = x := by
  obtain ⟨x, rfl⟩ := zfinI (m := 512) h.1 h.2
  exact (show ∀ x : Fin 512, zior (x : Nat) 0 = (x : Nat) by decide +kernel) x
theorem zior_b {x w : Int} (h : 0 ≤ x ∧ x < 512) (hw : 0 ≤ w ∧ w < 9) : 0 ≤ zior x (zishl 1 w) ∧ zior x (zishl 1 w) < 512 := by
  obtain ⟨x, rfl⟩ := zfinI (m := 512) h.1 h.2
  obtain ⟨w, rfl⟩ := zfinI (m := 9) hw.1 hw.2
  exact (show ∀ x : Fin 512, ∀ w : Fin 9, 0 ≤ zior (x : Nat) (zishl 1 (w : Nat)) ∧ zior (x : Nat) (zishl 1 (w : Nat)) < 512 by decide +kernel) x w
set_option maxHeartbeats 4000000 in
set_option maxRecDepth 100000 in
theorem c_X10_stairsOf {G : zG} {d n : Nat} {I : zMem} {R : zRef} {wo c : Int} (hW : zWir n R) (hn : 143 ≤ n) (hch : mCh I) (hc : 0 ≤ c ∧ c < I 115 2) : MT G mX10_stairsOf (d + 3) 0 0 [zR 115, zI c] n I R (zP1 (fun r I' R' => (r = (zst (sT (mS I' wo) c) (I 115 0).toNat).1 ∧ mSt I I' ∧ mTaken I') ∧ R' = R)) := by
  refine MT.of (by decide +kernel) tX10_stairsOf_ok (Nat.le_of_ble_eq_true rfl) (fun hI0 => ?_)
  have hco := hch.1
  have hli := hch.2.1
  have key : ∀ (m : Nat) (J : zMem) (w le : Int) (z : Int × Int), mSt I J → mTaken J → mTk J → 1 ≤ w → w ≤ I 115 0 + 1 → (I 115 0 + 1 - w).toNat = m → z = zst (sT (mS J wo) c) (w - 1).toNat → (0 ≤ z.1 ∧ z.1 < 512) → le = min 100000 z.2 → 0 ≤ le → WP G mX10_stairsOf (d + 3) 0 0 0 0 12 [some (zR 115), some (zI c), some (zI z.1), some (zI le), some (zI w)] [] n J R (zP1 (fun r I' R' => (r = (zst (sT (mS I' wo) c) (I 115 0).toNat).1 ∧ mSt I I' ∧ mTaken I') ∧ R' = R)) := by
    intro m
    induction m with
    | zero =>
      intro J w le z sm ht htk h0 h1 hm hs hb hle hb2
      have e115 : J 115 = I 115 := sm 115 (by decide) (by decide) (by decide)
      refine wp_canon (fun hI0 => ?_)
      refine wp_iload (t := 8) rfl rfl ?_
      refine wp_aload_n (t := 9) rfl rfl ?_
      refine wp_getI (t := 10) (ji := 0) rfl fX10_91 rfl rfl (by omega) (by first | rfl | assumption) ?_
      rw [e115]
      refine wp_icmp_gt (t := 11) (tgt := 87) rfl (by decide) (by first | assumption | exact hI0 _ _ | exact zin_and _ _ | (unfold zin; omega) | (unfold zin at *; omega)) (by first | assumption | exact hI0 _ _ | exact zin_and _ _ | (unfold zin; omega) | (unfold zin at *; omega)) (fun h18 => ?_) (fun h18 => ?_)
      · refine wp_iload_n (t := 53) rfl rfl ?_
        refine wp_ireturn (t := 54) rfl rfl ?_
        exact ⟨_, rfl, ⟨by rw [hs, show w - 1 = I 115 0 by omega], sm, ht⟩, rfl⟩
      · exact absurd h18 (by omega)
    | succ m ih =>
      intro J w le z sm ht htk h0 h1 hm hs hb hle hb2
      have e115 : J 115 = I 115 := sm 115 (by decide) (by decide) (by decide)
      have hT := htk c w hc.1 (by rw [e115]; exact hc.2) (by omega) (by rw [e115]; omega)
      have hq := zst_succ (sT (mS J wo) c) h0
      rw [← hs] at hq
      have hq : zst (sT (mS J wo) c) w.toNat = if I 137 (9 * c + w) = I 137 (9 * c + w) ∧ J 137 (9 * c + w) < z.2 then (zior z.1 (zishl 1 w), J 137 (9 * c + w)) else z := by
        rw [hq]
        by_cases g : J 137 (9 * c + w) < z.2
        · rw [if_pos (show sT (mS J wo) c w < z.2 from g), if_pos ⟨rfl, g⟩]
          rfl
        · rw [if_neg (show ¬ sT (mS J wo) c w < z.2 from g), if_neg (fun q => g q.2)]
      have zb := zior_b hb (w := w) ⟨by omega, by omega⟩
      have z0 := zior_zero hb
      refine wp_canon (fun hI0 => ?_)
      refine wp_iload (t := 8) rfl rfl ?_
      refine wp_aload_n (t := 9) rfl rfl ?_
      refine wp_getI (t := 10) (ji := 0) rfl fX10_91 rfl rfl (by omega) (by first | rfl | assumption) ?_
      rw [e115]
      refine wp_icmp_gt (t := 11) (tgt := 87) rfl (by decide) (by first | assumption | exact hI0 _ _ | exact zin_and _ _ | (unfold zin; omega) | (unfold zin at *; omega)) (by first | assumption | exact hI0 _ _ | exact zin_and _ _ | (unfold zin; omega) | (unfold zin at *; omega)) (fun h18 => ?_) (fun h18 => ?_)
      · exact absurd h18 (by omega)
      · refine wp_iload_n (t := 12) rfl rfl ?_
        refine wp_aload_n (t := 13) rfl rfl ?_
        refine wp_getR (t := 14) (ji := 36) rfl fX10_73 rfl rfl (by omega) (by first | rfl | assumption) (by first | exact hW _ _ _ (by omega) rfl | assumption) ?_
        refine wp_bipush (t := 15) rfl (by decide) ?_
        refine wp_iload_n (t := 16) rfl rfl ?_
        refine wp_imul (t := 17) rfl ?_
        refine wp_iload (t := 18) rfl rfl ?_
        refine wp_iadd (t := 19) rfl ?_
        refine wp_iaload (t := 20) rfl (by omega) (by first | rfl | assumption) (by omega) (by omega) (by omega) ?_
        refine wp_iload_n (t := 21) rfl rfl ?_
        refine wp_icmp_ge (t := 22) (tgt := 45) rfl (by decide) (by first | assumption | exact hI0 _ _ | exact zin_and _ _ | (unfold zin; omega) | (unfold zin at *; omega)) (by first | assumption | exact hI0 _ _ | exact zin_and _ _ | (unfold zin; omega) | (unfold zin at *; omega)) (fun h35 => ?_) (fun h35 => ?_)
        · refine wp_iconst (t := 27) rfl ?_
          refine wp_ior (t := 28) rfl ?_
          refine wp_istore_n (t := 29) rfl (by decide) rfl ?_
          refine wp_aload_n (t := 30) rfl rfl ?_
          refine wp_getR (t := 31) (ji := 36) rfl fX10_73 rfl rfl (by omega) (by first | rfl | assumption) (by first | exact hW _ _ _ (by omega) rfl | assumption) ?_
          refine wp_bipush (t := 32) rfl (by decide) ?_
          refine wp_iload_n (t := 33) rfl rfl ?_
          refine wp_imul (t := 34) rfl ?_
          refine wp_iload (t := 35) rfl rfl ?_
          refine wp_iadd (t := 36) rfl ?_
          refine wp_iaload (t := 37) rfl (by omega) (by first | rfl | assumption) (by omega) (by omega) (by omega) ?_
          refine wp_iload_n (t := 38) rfl rfl ?_
          refine wp_icmp_ge (t := 39) (tgt := 79) rfl (by decide) (by first | assumption | exact hI0 _ _ | exact zin_and _ _ | (unfold zin; omega) | (unfold zin at *; omega)) (by first | assumption | exact hI0 _ _ | exact zin_and _ _ | (unfold zin; omega) | (unfold zin at *; omega)) (fun h61 => ?_) (fun h61 => ?_)
          · refine wp_iload_n (t := 49) rfl rfl ?_
            refine wp_istore_n (t := 50) rfl (by decide) rfl ?_
            refine wp_iinc (t := 51) rfl rfl (by decide) rfl ?_
            refine wp_goto (t := 52) (tgt := 12) rfl (by decide) ?_
            rw [z0]
            exact ih J (w + 1) _ z sm ht htk (by omega) (by omega) (by omega) (by rw [show w + 1 - 1 = w by omega, hq, if_neg (fun q => by have := q.2; omega)]) hb hle hb2
          · exact absurd h61 (by omega)
        · refine wp_iconst (t := 23) rfl ?_
          refine wp_iload (t := 24) rfl rfl ?_
          refine wp_ishl (t := 25) rfl ?_
          refine wp_goto (t := 26) (tgt := 46) rfl (by decide) ?_
          refine wp_ior (t := 28) rfl ?_
          refine wp_istore_n (t := 29) rfl (by decide) rfl ?_
          refine wp_aload_n (t := 30) rfl rfl ?_
          refine wp_getR (t := 31) (ji := 36) rfl fX10_73 rfl rfl (by omega) (by first | rfl | assumption) (by first | exact hW _ _ _ (by omega) rfl | assumption) ?_
          refine wp_bipush (t := 32) rfl (by decide) ?_
          refine wp_iload_n (t := 33) rfl rfl ?_
          refine wp_imul (t := 34) rfl ?_
          refine wp_iload (t := 35) rfl rfl ?_
          refine wp_iadd (t := 36) rfl ?_
          refine wp_iaload (t := 37) rfl (by omega) (by first | rfl | assumption) (by omega) (by omega) (by omega) ?_
          refine wp_iload_n (t := 38) rfl rfl ?_
          refine wp_icmp_ge (t := 39) (tgt := 79) rfl (by decide) (by first | assumption | exact hI0 _ _ | exact zin_and _ _ | (unfold zin; omega) | (unfold zin at *; omega)) (by first | assumption | exact hI0 _ _ | exact zin_and _ _ | (unfold zin; omega) | (unfold zin at *; omega)) (fun h61 => ?_) (fun h61 => ?_)
          · exact absurd h61 (by omega)
          · refine wp_aload_n (t := 40) rfl rfl ?_
            refine wp_getR (t := 41) (ji := 36) rfl fX10_73 rfl rfl (by omega) (by first | rfl | assumption) (by first | exact hW _ _ _ (by omega) rfl | assumption) ?_
            refine wp_bipush (t := 42) rfl (by decide) ?_
            refine wp_iload_n (t := 43) rfl rfl ?_
            refine wp_imul (t := 44) rfl ?_
            refine wp_iload (t := 45) rfl rfl ?_
            refine wp_iadd (t := 46) rfl ?_
            refine wp_iaload (t := 47) rfl (by omega) (by first | rfl | assumption) (by omega) (by omega) (by omega) ?_
            refine wp_goto (t := 48) (tgt := 80) rfl (by decide) ?_
            refine wp_istore_n (t := 50) rfl (by decide) rfl ?_
            refine wp_iinc (t := 51) rfl rfl (by decide) rfl ?_
            refine wp_goto (t := 52) (tgt := 12) rfl (by decide) ?_
            exact ih J (w + 1) _ (zior z.1 (zishl 1 w), J 137 (9 * c + w)) sm ht htk (by omega) (by omega) (by omega) (by rw [show w + 1 - 1 = w by omega, hq, if_pos ⟨rfl, by omega⟩]) zb (by show J 137 (9 * c + w) = min 100000 (J 137 (9 * c + w)); omega) (by omega)
  refine wp_ls (ls' := [some (zR 115), some (zI c), none, none, none]) rfl ?_
  refine wp_aload_n (t := 0) rfl rfl ?_
  refine wp_vv (ci := 10) (c_X10_layTakes (d := d) hW hn hch) (t := 1) rfl kX10_209 rfl rfl (by omega) (by first | rfl | assumption) ⟨_, _, rfl⟩ (Nat.le_of_ble_eq_true rfl) ⟨Nat.le_refl _, Nat.le_refl _⟩ (fun I1 R1 c1 => ?_)
  refine wp_canon (fun hI1 => ?_)
  obtain ⟨⟨sm1, ht1⟩, zr1⟩ := c1
  have zr1 := zr1.symm
  subst zr1
  have hchJ : mCh I1 := by unfold mCh at hch ⊢; rw [sm1 115 (by decide) (by decide) (by decide), sm1 116 (by decide) (by decide) (by decide), sm1 117 (by decide) (by decide) (by decide), sm1 118 (by decide) (by decide) (by decide), sm1 119 (by decide) (by decide) (by decide)]; exact hch
  refine wp_iconst (t := 2) rfl ?_
  refine wp_istore_n (t := 3) rfl (by decide) rfl ?_
  refine wp_ldc (100000) (t := 4) rfl (wsL_law_r21_l (List.mem_of_getElem? (i := 9) rfl)) (by decide) ?_
  refine wp_istore_n (t := 5) rfl (by decide) rfl ?_
  refine wp_iconst (t := 6) rfl ?_
  refine wp_istore (t := 7) rfl (by decide) rfl ?_
  exact key _ I1 1 _ (0, 1000000) sm1 ht1 (mTaken_Tk hchJ ht1) (by omega) (by omega) rfl rfl (by decide) (by decide) (by omega)
set_option maxHeartbeats 4000000 in
set_option maxRecDepth 100000 in
theorem c_X10_upward {G : zG} {d n : Nat} {I : zMem} {R : zRef} {x y : Int} (hx : 0 ≤ x ∧ x ≤ 10000000) (hy : 1 ≤ y ∧ y ≤ 1000) : MT G mX10_upward d 0 0 [zI x, zI y] n I R (zP1 (fun r I' R' => r = (x + y - 1) / y ∧ I' = I ∧ R' = R)) := by
  refine MT.of (by decide +kernel) tX10_upward_ok (Nat.le_of_ble_eq_true rfl) (fun hI0 => ?_)
  refine wp_ls (ls' := [some (zI x), some (zI y)]) rfl ?_
  refine wp_iload_n (t := 0) rfl rfl ?_
  refine wp_iload_n (t := 1) rfl rfl ?_
  refine wp_iadd (t := 2) rfl ?_
  refine wp_iconst (t := 3) rfl ?_
  refine wp_isub (t := 4) rfl ?_
  refine wp_iload_n (t := 5) rfl rfl ?_
  refine wp_idiv (t := 6) rfl (by first | assumption | exact hI0 _ _ | exact zin_and _ _ | (unfold zin; omega) | (unfold zin at *; omega)) (by first | assumption | exact hI0 _ _ | exact zin_and _ _ | (unfold zin; omega) | (unfold zin at *; omega)) (by omega) ?_
  refine wp_ireturn (t := 7) rfl rfl ?_
  exact ⟨_, rfl, by rw [Int.tdiv_eq_ediv_of_nonneg (by omega)], rfl, rfl⟩
set_option maxHeartbeats 4000000 in
set_option maxRecDepth 100000 in
theorem c_X10_areaOf {G : zG} {d n : Nat} {I : zMem} {R : zRef} {wo : Int} (hW : zWir n R) (hn : 143 ≤ n) (hch : mCh I) (htk : mTk I) : MT G mX10_areaOf (d + 1) 0 0 [zR 115] n I R (zP1 (fun r I' R' => r = sArea (mS I wo) ∧ I' = I ∧ R' = R)) := by
  refine MT.of (by decide +kernel) tX10_areaOf_ok (Nat.le_of_ble_eq_true rfl) (fun hI0 => ?_)
  have hco := hch.1
  have hli := hch.2.1
  have hmul : ∀ c w : Int, 0 ≤ c → c < I 115 2 → 1 ≤ w → w ≤ I 115 0 → 0 ≤ w * I 137 (9 * c + w) ∧ w * I 137 (9 * c + w) ≤ 17872 := fun c w c0 c1 w0 w1 => by
    have hT := htk c w c0 c1 w0 w1
    exact zmulb (A := 8) (B := 2234) (by omega) (by omega) (by omega) hT.2
  have hmin : ∀ c : Int, 0 ≤ c → c < I 115 2 → 0 ≤ zminf (fun w => w * I 137 (9 * c + w)) (I 115 0).toNat ∧ zminf (fun w => w * I 137 (9 * c + w)) (I 115 0).toNat ≤ 17872 := fun c c0 c1 => by
    have := zminf_b (f := fun w => w * I 137 (9 * c + w)) (A := 0) (B := 17872) (by omega) (by omega) (I 115 0).toNat (fun w w0 w1 => hmul c w c0 c1 w0 (by omega))
    omega
  have hsum := fun k : Nat => zsum_bounds (a := 0) (b := 17872) (n := k) (f := fun c => zminf (fun w => w * I 137 (9 * c + w)) (I 115 0).toNat)
  have key : ∀ (m : Nat) (c s : Int) (x3 x4 x5 : Option zV), 0 ≤ c → c ≤ I 115 2 → (I 115 2 - c).toNat = m → s = zsum (fun c => zminf (fun w => w * I 137 (9 * c + w)) (I 115 0).toNat) c.toNat → WP G mX10_areaOf (d + 1) 0 0 0 0 4 [some (zR 115), some (zI s), some (zI c), x3, x4, x5] [] n I R (zP1 (fun r I' R' => r = sArea (mS I wo) ∧ I' = I ∧ R' = R)) := by
    intro m
    induction m with
    | zero =>
      intro c s x3 x4 x5 h0 h1 hm hs
      have hsb := hsum c.toNat (fun i i0 i1 => hmin i i0 (by omega))
      rw [← hs] at hsb
      refine wp_iload_n (t := 4) rfl rfl ?_
      refine wp_aload_n (t := 5) rfl rfl ?_
      refine wp_getI (t := 6) (ji := 2) rfl fX10_115 rfl rfl (by omega) (by first | rfl | assumption) ?_
      refine wp_icmp_ge (t := 7) (tgt := 73) rfl (by decide) (by first | assumption | exact hI0 _ _ | exact zin_and _ _ | (unfold zin; omega) | (unfold zin at *; omega)) (by first | assumption | exact hI0 _ _ | exact zin_and _ _ | (unfold zin; omega) | (unfold zin at *; omega)) (fun h9 => ?_) (fun h9 => ?_)
      · refine wp_iload_n (t := 42) rfl rfl ?_
        refine wp_aload_n (t := 43) rfl rfl ?_
        refine wp_getI (t := 44) (ji := 0) rfl fX10_91 rfl rfl (by omega) (by first | rfl | assumption) ?_
        refine wp_si (c_X10_upward (d := d) (by omega) (by omega)) (t := 45) rfl kX10_282 rfl rfl (Nat.le_of_ble_eq_true rfl) ⟨Nat.le_refl _, Nat.le_refl _⟩ (fun r78 I78 R78 c78 => ?_)
        refine wp_canon (fun hI1 => ?_)
        obtain ⟨e78, zi78, zr78⟩ := c78
        have zi78 := zi78.symm
        subst zi78
        have zr78 := zr78.symm
        subst zr78
        refine wp_ireturn (t := 46) rfl rfl ?_
        exact ⟨_, rfl, by rw [e78, hs, show c = I 115 2 by omega]; rfl, rfl, rfl⟩
      · exact absurd h9 (by omega)
    | succ m ih =>
      intro c s x3 x4 x5 h0 h1 hm hs
      have inner : ∀ (k : Nat) (w le : Int) (x5 : Option zV), 1 ≤ w → w ≤ I 115 0 + 1 → (I 115 0 + 1 - w).toNat = k → c < I 115 2 → le = min 100000 (zminf (fun w => w * I 137 (9 * c + w)) (w - 1).toNat) → 0 ≤ le ∧ le ≤ 1000000 → WP G mX10_areaOf (d + 1) 0 0 0 0 18 [some (zR 115), some (zI s), some (zI c), some (zI le), some (zI w), x5] [] n I R (zP1 (fun r I' R' => r = sArea (mS I wo) ∧ I' = I ∧ R' = R)) := by
        intro k
        induction k with
        | zero =>
          intro w le x5 w0 w1 hk hc9 hle hb
          have hm9 := hmin c h0 hc9
          refine wp_iload (t := 12) rfl rfl ?_
          refine wp_aload_n (t := 13) rfl rfl ?_
          refine wp_getI (t := 14) (ji := 0) rfl fX10_91 rfl rfl (by omega) (by first | rfl | assumption) ?_
          refine wp_icmp_gt (t := 15) (tgt := 63) rfl (by decide) (by first | assumption | exact hI0 _ _ | exact zin_and _ _ | (unfold zin; omega) | (unfold zin at *; omega)) (by first | assumption | exact hI0 _ _ | exact zin_and _ _ | (unfold zin; omega) | (unfold zin at *; omega)) (fun h24 => ?_) (fun h24 => ?_)
          · refine wp_iload_n (t := 36) rfl rfl ?_
            refine wp_iload_n (t := 37) rfl rfl ?_
            refine wp_iadd (t := 38) rfl ?_
            refine wp_istore_n (t := 39) rfl (by decide) rfl ?_
            refine wp_iinc (t := 40) rfl rfl (by decide) rfl ?_
            refine wp_goto (t := 41) (tgt := 4) rfl (by decide) ?_
            refine ih (c + 1) _ _ _ _ (by omega) (by omega) (by omega) ?_
            rw [zsum_succ _ h0, ← hs, hle, show w - 1 = I 115 0 by omega]
            omega
          · exact absurd h24 (by omega)
        | succ k ihk =>
          intro w le x5 w0 w1 hk hc9 hle hb
          have hwl : w < I 115 0 + 1 := by omega
          have hmu := hmul c w h0 hc9 w0 (by omega)
          have hz := zminf_succ (fun w => w * I 137 (9 * c + w)) (w := w) w0
          have hz : zminf (fun w => w * I 137 (9 * c + w)) w.toNat = min (zminf (fun w => w * I 137 (9 * c + w)) (w - 1).toNat) (w * I 137 (9 * c + w)) := hz
          refine wp_iload (t := 12) rfl rfl ?_
          refine wp_aload_n (t := 13) rfl rfl ?_
          refine wp_getI (t := 14) (ji := 0) rfl fX10_91 rfl rfl (by omega) (by first | rfl | assumption) ?_
          refine wp_icmp_gt (t := 15) (tgt := 63) rfl (by decide) (by first | assumption | exact hI0 _ _ | exact zin_and _ _ | (unfold zin; omega) | (unfold zin at *; omega)) (by first | assumption | exact hI0 _ _ | exact zin_and _ _ | (unfold zin; omega) | (unfold zin at *; omega)) (fun h24 => ?_) (fun h24 => ?_)
          · exact absurd h24 (by omega)
          · refine wp_iload (t := 16) rfl rfl ?_
            refine wp_aload_n (t := 17) rfl rfl ?_
            refine wp_getR (t := 18) (ji := 36) rfl fX10_73 rfl rfl (by omega) (by first | rfl | assumption) (by first | exact hW _ _ _ (by omega) rfl | assumption) ?_
            refine wp_bipush (t := 19) rfl (by decide) ?_
            refine wp_iload_n (t := 20) rfl rfl ?_
            refine wp_imul (t := 21) rfl ?_
            refine wp_iload (t := 22) rfl rfl ?_
            refine wp_iadd (t := 23) rfl ?_
            refine wp_iaload (t := 24) rfl (by omega) (by first | rfl | assumption) (by omega) (by omega) (by omega) ?_
            refine wp_imul (t := 25) rfl ?_
            refine wp_istore (t := 26) rfl (by decide) rfl ?_
            refine wp_iload (t := 27) rfl rfl ?_
            refine wp_iload_n (t := 28) rfl rfl ?_
            refine wp_icmp_ge (t := 29) (tgt := 55) rfl (by decide) (by first | assumption | exact hI0 _ _ | exact zin_and _ _ | (unfold zin; omega) | (unfold zin at *; omega)) (by first | assumption | exact hI0 _ _ | exact zin_and _ _ | (unfold zin; omega) | (unfold zin at *; omega)) (fun h47 => ?_) (fun h47 => ?_)
            · refine wp_iload_n (t := 32) rfl rfl ?_
              refine wp_istore_n (t := 33) rfl (by decide) rfl ?_
              refine wp_iinc (t := 34) rfl rfl (by decide) rfl ?_
              refine wp_goto (t := 35) (tgt := 18) rfl (by decide) ?_
              exact ihk (w + 1) _ _ (by omega) (by omega) (by omega) hc9 (by rw [show w + 1 - 1 = w by omega, hz]; omega) (by omega)
            · refine wp_iload (t := 30) rfl rfl ?_
              refine wp_goto (t := 31) (tgt := 56) rfl (by decide) ?_
              refine wp_istore_n (t := 33) rfl (by decide) rfl ?_
              refine wp_iinc (t := 34) rfl rfl (by decide) rfl ?_
              refine wp_goto (t := 35) (tgt := 18) rfl (by decide) ?_
              exact ihk (w + 1) _ _ (by omega) (by omega) (by omega) hc9 (by rw [show w + 1 - 1 = w by omega, hz]; omega) (by omega)
      refine wp_iload_n (t := 4) rfl rfl ?_
      refine wp_aload_n (t := 5) rfl rfl ?_
      refine wp_getI (t := 6) (ji := 2) rfl fX10_115 rfl rfl (by omega) (by first | rfl | assumption) ?_
      refine wp_icmp_ge (t := 7) (tgt := 73) rfl (by decide) (by first | assumption | exact hI0 _ _ | exact zin_and _ _ | (unfold zin; omega) | (unfold zin at *; omega)) (by first | assumption | exact hI0 _ _ | exact zin_and _ _ | (unfold zin; omega) | (unfold zin at *; omega)) (fun h9 => ?_) (fun h9 => ?_)
      · exact absurd h9 (by omega)
      · refine wp_ldc (100000) (t := 8) rfl (wsL_law_r21_l (List.mem_of_getElem? (i := 9) rfl)) (by decide) ?_
        refine wp_istore_n (t := 9) rfl (by decide) rfl ?_
        refine wp_iconst (t := 10) rfl ?_
        refine wp_istore (t := 11) rfl (by decide) rfl ?_
        exact inner _ 1 100000 _ (by omega) (by omega) rfl (by omega) rfl (by omega)
  refine wp_ls (ls' := [some (zR 115), none, none, none, none, none]) rfl ?_
  refine wp_iconst (t := 0) rfl ?_
  refine wp_istore_n (t := 1) rfl (by decide) rfl ?_
  refine wp_iconst (t := 2) rfl ?_
  refine wp_istore_n (t := 3) rfl (by decide) rfl ?_
  exact key _ 0 0 _ _ _ (by omega) (by omega) rfl rfl
set_option maxHeartbeats 4000000 in
set_option maxRecDepth 100000 in
theorem c_X10_drawnOf {G : zG} {d n : Nat} {I : zMem} {R : zRef} {wo : Int} (hW : zWir n R) (hn : 143 ≤ n) (hch : mCh I) (htk : mTk I) : MT G mX10_drawnOf (d + 1) 0 0 [zR 115] n I R (zP1 (fun r I' R' => r = sDrawn (mS I wo) ∧ I' = I ∧ R' = R)) := by
  refine MT.of (by decide +kernel) tX10_drawnOf_ok (Nat.le_of_ble_eq_true rfl) (fun hI0 => ?_)
  have hco := hch.1
  have hpo := hch.2.2.1
  have hmul : ∀ c : Int, 0 ≤ c → c < I 115 2 → 0 ≤ sLeast (mS I wo) c * I 117 c ∧ sLeast (mS I wo) c * I 117 c ≤ 67020 := fun c c0 c1 => by
    have g := mLeast_b (wo := wo) hch htk c0 c1
    have g2 := (hch.2.2.2.2 c c0 c1).2.1
    exact zmulb (A := 2234) (B := 30) (by omega) g.2 (by omega) g2.2
  have hsum := fun k : Nat => zsum_bounds (a := 0) (b := 67020) (n := k) (f := fun c => sLeast (mS I wo) c * I 117 c)
  have key : ∀ (m : Nat) (c s : Int), 0 ≤ c → c ≤ I 115 2 → (I 115 2 - c).toNat = m → s = zsum (fun c => sLeast (mS I wo) c * I 117 c) c.toNat → WP G mX10_drawnOf (d + 1) 0 0 0 0 4 [some (zR 115), some (zI s), some (zI c)] [] n I R (zP1 (fun r I' R' => r = sDrawn (mS I wo) ∧ I' = I ∧ R' = R)) := by
    intro m
    induction m with
    | zero =>
      intro c s h0 h1 hm hs
      have hsb := hsum c.toNat (fun i i0 i1 => hmul i i0 (by omega))
      rw [← hs] at hsb
      refine wp_iload_n (t := 4) rfl rfl ?_
      refine wp_aload_n (t := 5) rfl rfl ?_
      refine wp_getI (t := 6) (ji := 2) rfl fX10_115 rfl rfl (by omega) (by first | rfl | assumption) ?_
      refine wp_icmp_ge (t := 7) (tgt := 33) rfl (by decide) (by first | assumption | exact hI0 _ _ | exact zin_and _ _ | (unfold zin; omega) | (unfold zin at *; omega)) (by first | assumption | exact hI0 _ _ | exact zin_and _ _ | (unfold zin; omega) | (unfold zin at *; omega)) (fun h9 => ?_) (fun h9 => ?_)
      · refine wp_iload_n (t := 21) rfl rfl ?_
        refine wp_aload_n (t := 22) rfl rfl ?_
        refine wp_getI (t := 23) (ji := 1) rfl fX10_95 rfl rfl (by omega) (by first | rfl | assumption) ?_
        refine wp_si (c_X10_upward (d := d) (by omega) (by omega)) (t := 24) rfl kX10_282 rfl rfl (Nat.le_of_ble_eq_true rfl) ⟨Nat.le_refl _, Nat.le_refl _⟩ (fun r38 I38 R38 c38 => ?_)
        refine wp_canon (fun hI1 => ?_)
        obtain ⟨e38, zi38, zr38⟩ := c38
        have zi38 := zi38.symm
        subst zi38
        have zr38 := zr38.symm
        subst zr38
        refine wp_ireturn (t := 25) rfl rfl ?_
        exact ⟨_, rfl, by rw [e38, hs, show c = I 115 2 by omega]; rfl, rfl, rfl⟩
      · exact absurd h9 (by omega)
    | succ m ih =>
      intro c s h0 h1 hm hs
      refine wp_iload_n (t := 4) rfl rfl ?_
      refine wp_aload_n (t := 5) rfl rfl ?_
      refine wp_getI (t := 6) (ji := 2) rfl fX10_115 rfl rfl (by omega) (by first | rfl | assumption) ?_
      refine wp_icmp_ge (t := 7) (tgt := 33) rfl (by decide) (by first | assumption | exact hI0 _ _ | exact zin_and _ _ | (unfold zin; omega) | (unfold zin at *; omega)) (by first | assumption | exact hI0 _ _ | exact zin_and _ _ | (unfold zin; omega) | (unfold zin at *; omega)) (fun h9 => ?_) (fun h9 => ?_)
      · exact absurd h9 (by omega)
      · refine wp_iload_n (t := 8) rfl rfl ?_
        refine wp_aload_n (t := 9) rfl rfl ?_
        refine wp_iload_n (t := 10) rfl rfl ?_
        refine wp_vi (ci := 10) (c_X10_leastTakes (wo := wo) (d := d) hW hn hch htk ⟨h0, by omega⟩) (t := 11) rfl kX10_285 rfl rfl (by omega) (by first | rfl | assumption) ⟨_, _, rfl⟩ (Nat.le_of_ble_eq_true rfl) ⟨Nat.le_refl _, Nat.le_refl _⟩ (fun r15 I15 R15 c15 => ?_)
        refine wp_canon (fun hI1 => ?_)
        obtain ⟨e15, zi15, zr15⟩ := c15
        have zi15 := zi15.symm
        subst zi15
        have zr15 := zr15.symm
        subst zr15
        refine wp_aload_n (t := 12) rfl rfl ?_
        refine wp_getR (t := 13) (ji := 5) rfl fX10_13 rfl rfl (by omega) (by first | rfl | assumption) (by first | exact hW _ _ _ (by omega) rfl | assumption) ?_
        refine wp_iload_n (t := 14) rfl rfl ?_
        refine wp_iaload (t := 15) rfl (by omega) (by first | rfl | assumption) (by omega) (by omega) (by omega) ?_
        refine wp_imul (t := 16) rfl ?_
        refine wp_iadd (t := 17) rfl ?_
        refine wp_istore_n (t := 18) rfl (by decide) rfl ?_
        refine wp_iinc (t := 19) rfl rfl (by decide) rfl ?_
        refine wp_goto (t := 20) (tgt := 4) rfl (by decide) ?_
        refine ih (c + 1) _ (by omega) (by omega) (by omega) ?_
        rw [zsum_succ _ h0, ← hs, ← e15]
  refine wp_ls (ls' := [some (zR 115), none, none]) rfl ?_
  refine wp_iconst (t := 0) rfl ?_
  refine wp_istore_n (t := 1) rfl (by decide) rfl ?_
  refine wp_iconst (t := 2) rfl ?_
  refine wp_istore_n (t := 3) rfl (by decide) rfl ?_
  exact key _ 0 0 (by omega) (by omega) rfl rfl
def mUp (I J : zMem) : Prop := ∀ b : Nat, b ≠ 140 → J b = I b
set_option maxHeartbeats 4000000 in
set_option maxRecDepth 100000 in
theorem c_X10_pathOf {G : zG} {d n : Nat} {I : zMem} {R : zRef} (hW : zWir n R) (hn : 143 ≤ n) (hch : mCh I) (htk : mTk I) : MT G mX10_pathOf (d + 1) 0 0 [zR 115] n I R (zP1 (fun r I' R' => (r = sPath (mS I (-4)) ∧ mUp I I') ∧ R' = R)) := by
  refine MT.of (by decide +kernel) tX10_pathOf_ok (Nat.le_of_ble_eq_true rfl) (fun hI0 => ?_)
  have hco := hch.1
  have hru := hch.2.2.2.1
  have hmin : ∀ c : Int, 0 ≤ c → c < I 115 2 → 0 ≤ sLeast (mS I (-4)) c ∧ sLeast (mS I (-4)) c ≤ 2234 := fun c c0 c1 => by
    have := mLeast_b (wo := -4) hch htk c0 c1
    omega
  have hup : ∀ k : Nat, (k : Int) ≤ I 115 2 → ∀ x : Int, 0 ≤ zup (mA I (-4)) (sLeast (mS I (-4))) k x ∧ zup (mA I (-4)) (sLeast (mS I (-4))) k x ≤ 13404 := fun k hk x => by
    have := zup_b (ah := mA I (-4)) (le := sLeast (mS I (-4))) k (fun c c0 c1 => hmin c c0 (by omega)) x
    omega
  have key : ∀ (m : Nat) (c s : Int) (J : zMem) (x4 x5 : Option zV), 0 ≤ c → c ≤ I 115 2 → (I 115 2 - c).toNat = m → mUp I J → (∀ x : Int, 0 ≤ x → x < c → J 140 x = zup (mA I (-4)) (sLeast (mS I (-4))) c.toNat x) → s = zmxf (fun _ => true) (zup (mA I (-4)) (sLeast (mS I (-4))) c.toNat) c.toNat → WP G mX10_pathOf (d + 1) 0 0 0 0 4 [some (zR 115), some (zI s), some (zI c), x4, x5] [] n J R (zP1 (fun r I' R' => (r = sPath (mS I (-4)) ∧ mUp I I') ∧ R' = R)) := by
    intro m
    induction m with
    | zero =>
      intro c s J x4 x5 h0 h1 hm hf hu hs
      have e34 : J 115 = I 115 := hf 115 (by decide)
      refine wp_canon (fun hI0 => ?_)
      refine wp_iload_n (t := 4) rfl rfl ?_
      refine wp_aload_n (t := 5) rfl rfl ?_
      refine wp_getI (t := 6) (ji := 2) rfl fX10_115 rfl rfl (by omega) (by first | rfl | assumption) ?_
      rw [e34]
      refine wp_icmp_ge (t := 7) (tgt := 104) rfl (by decide) (by first | assumption | exact hI0 _ _ | exact zin_and _ _ | (unfold zin; omega) | (unfold zin at *; omega)) (by first | assumption | exact hI0 _ _ | exact zin_and _ _ | (unfold zin; omega) | (unfold zin at *; omega)) (fun h9 => ?_) (fun h9 => ?_)
      · refine wp_iload_n (t := 60) rfl rfl ?_
        refine wp_ireturn (t := 61) rfl rfl ?_
        exact ⟨_, rfl, ⟨by rw [hs, show c = I 115 2 by omega]; rfl, hf⟩, rfl⟩
      · exact absurd h9 (by omega)
    | succ m ih =>
      intro c s J x4 x5 h0 h1 hm hf hu hs
      have e34 : J 115 = I 115 := hf 115 (by decide)
      have e120 : J 120 = I 120 := hf 120 (by decide)
      have e121 : J 121 = I 121 := hf 121 (by decide)
      have eA : mA J (-4) = mA I (-4) := mA_ext (by rw [e34]) e120 e121
      have eS : mS J (-4) = mS I (-4) := mS_ext (fun j _ _ => by rw [e34]) (hf 117 (by decide)) e120 e121 (hf 122 (by decide)) (hf 137 (by decide))
      have hchJ : mCh J := by unfold mCh at hch ⊢; rw [hf 115 (by decide), hf 116 (by decide), hf 117 (by decide), hf 118 (by decide), hf 119 (by decide)]; exact hch
      have htkJ : mTk J := by unfold mTk at htk ⊢; rw [hf 115 (by decide), hf 137 (by decide)]; exact htk
      refine wp_canon (fun hI0 => ?_)
      have hupc := hup c.toNat (by omega)
      have hus := zup_succ (mA I (-4)) (sLeast (mS I (-4))) h0
      have hsb := zmxf_b (P := fun _ => true) (v := zup (mA I (-4)) (sLeast (mS I (-4))) c.toNat) (B := 13404) (n := c.toNat) (by omega) (fun i _ _ => hupc i)
      rw [← hs] at hsb
      have inner : ∀ (k : Nat) (a be : Int), 0 ≤ a → a ≤ c → (c - a).toNat = k → c < I 115 2 → be = zmxf (fun a => mA I (-4) a c) (zup (mA I (-4)) (sLeast (mS I (-4))) c.toNat) a.toNat → WP G mX10_pathOf (d + 1) 0 0 0 0 17 [some (zR 115), some (zI s), some (zI c), some (zI be), some (zI a)] [] n J R (zP1 (fun r I' R' => (r = sPath (mS I (-4)) ∧ mUp I I') ∧ R' = R)) := by
        intro k
        induction k with
        | zero =>
          intro a be a0 a1 hk hc9 hbe
          have hbb := zmxf_b (P := fun a => mA I (-4) a c) (v := zup (mA I (-4)) (sLeast (mS I (-4))) c.toNat) (B := 13404) (n := a.toNat) (by omega) (fun i _ _ => hupc i)
          rw [← hbe] at hbb
          have hmc := hmin c h0 hc9
          have eac : a.toNat = c.toNat := by omega
          have hs2 : zmxf (fun _ => true) (zup (mA I (-4)) (sLeast (mS I (-4))) (c + 1).toNat) (c + 1).toNat = max s (be + sLeast (mS I (-4)) c) := by
            rw [zmxf_succ _ _ h0, if_pos rfl, hus c, if_pos rfl, hs, hbe, eac]
            congr 1
            exact zmxf_congr (fun i i0 i1 => ⟨rfl, by rw [hus i, if_neg (by omega)]⟩)
          refine wp_iload (t := 12) rfl rfl ?_
          refine wp_iload_n (t := 13) rfl rfl ?_
          refine wp_icmp_ge (t := 14) (tgt := 64) rfl (by decide) (by first | assumption | exact hI0 _ _ | exact zin_and _ _ | (unfold zin; omega) | (unfold zin at *; omega)) (by first | assumption | exact hI0 _ _ | exact zin_and _ _ | (unfold zin; omega) | (unfold zin at *; omega)) (fun h20 => ?_) (fun h20 => ?_)
          · refine wp_aload_n (t := 36) rfl rfl ?_
            refine wp_getR (t := 37) (ji := 41) rfl fX10_82 rfl rfl (by omega) (by first | rfl | assumption) (by first | exact hW _ _ _ (by omega) rfl | assumption) ?_
            refine wp_iload_n (t := 38) rfl rfl ?_
            refine wp_iload_n (t := 39) rfl rfl ?_
            refine wp_aload_n (t := 40) rfl rfl ?_
            refine wp_iload_n (t := 41) rfl rfl ?_
            refine wp_vi (ci := 10) (c_X10_leastTakes (wo := -4) (d := d) hW hn hchJ htkJ ⟨h0, by rw [e34]; omega⟩) (t := 42) rfl kX10_285 rfl rfl (by omega) (by first | rfl | assumption) ⟨_, _, rfl⟩ (Nat.le_of_ble_eq_true rfl) ⟨Nat.le_refl _, Nat.le_refl _⟩ (fun r72 I72 R72 c72 => ?_)
            refine wp_canon (fun hI1 => ?_)
            obtain ⟨e72, zi72, zr72⟩ := c72
            have zi72 := zi72.symm
            subst zi72
            have zr72 := zr72.symm
            subst zr72
            rw [eS] at e72
            subst e72
            refine wp_iadd (t := 43) rfl ?_
            refine wp_iastore (t := 44) rfl (by omega) (by first | rfl | assumption) (by omega) (by omega) (by omega) (by first | assumption | exact hI1 _ _ | exact hI0 _ _ | exact zin_and _ _ | (unfold zin; omega) | (unfold zin at *; omega)) ?_
            refine wp_canon (fun hI2 => ?_)
            refine wp_aload_n (t := 45) rfl rfl ?_
            refine wp_getR (t := 46) (ji := 41) rfl fX10_82 rfl rfl (by omega) (by first | rfl | assumption) (by first | exact hW _ _ _ (by omega) rfl | assumption) ?_
            refine wp_iload_n (t := 47) rfl rfl ?_
            refine wp_iaload (t := 48) rfl (by omega) (by first | rfl | assumption) (by omega) (by omega) (by omega) ?_
            rw [zu_eq]
            refine wp_iload_n (t := 49) rfl rfl ?_
            refine wp_icmp_le (t := 50) (tgt := 96) rfl (by decide) (by first | assumption | exact hI2 _ _ | exact hI1 _ _ | exact hI0 _ _ | exact zin_and _ _ | (unfold zin; omega) | (unfold zin at *; omega)) (by first | assumption | exact hI2 _ _ | exact hI1 _ _ | exact hI0 _ _ | exact zin_and _ _ | (unfold zin; omega) | (unfold zin at *; omega)) (fun h84 => ?_) (fun h84 => ?_)
            · refine wp_iload_n (t := 56) rfl rfl ?_
              refine wp_istore_n (t := 57) rfl (by decide) rfl ?_
              refine wp_iinc (t := 58) rfl rfl (by decide) rfl ?_
              refine wp_goto (t := 59) (tgt := 4) rfl (by decide) ?_
              refine ih (c + 1) _ _ _ _ (by omega) (by omega) (by omega) (fun b hb => by rw [zu_ne hb]; exact hf b hb) (fun x x0 x1 => ?_) (by rw [hs2]; omega)
              rw [hus x]
              by_cases e : x = c
              · rw [if_pos e, e, zu_eq, hbe, eac]
              · rw [if_neg e, zu_ni e]
                exact hu x x0 (by omega)
            · refine wp_aload_n (t := 51) rfl rfl ?_
              refine wp_getR (t := 52) (ji := 41) rfl fX10_82 rfl rfl (by omega) (by first | rfl | assumption) (by first | exact hW _ _ _ (by omega) rfl | assumption) ?_
              refine wp_iload_n (t := 53) rfl rfl ?_
              refine wp_iaload (t := 54) rfl (by omega) (by first | rfl | assumption) (by omega) (by omega) (by omega) ?_
              rw [zu_eq]
              refine wp_goto (t := 55) (tgt := 97) rfl (by decide) ?_
              refine wp_istore_n (t := 57) rfl (by decide) rfl ?_
              refine wp_iinc (t := 58) rfl rfl (by decide) rfl ?_
              refine wp_goto (t := 59) (tgt := 4) rfl (by decide) ?_
              refine ih (c + 1) _ _ _ _ (by omega) (by omega) (by omega) (fun b hb => by rw [zu_ne hb]; exact hf b hb) (fun x x0 x1 => ?_) (by rw [hs2]; omega)
              rw [hus x]
              by_cases e : x = c
              · rw [if_pos e, e, zu_eq, hbe, eac]
              · rw [if_neg e, zu_ni e]
                exact hu x x0 (by omega)
          · exact absurd h20 (by omega)
        | succ k ihk =>
          intro a be a0 a1 hk hc9 hbe
          have hbb := zmxf_b (P := fun a => mA I (-4) a c) (v := zup (mA I (-4)) (sLeast (mS I (-4))) c.toNat) (B := 13404) (n := a.toNat) (by omega) (fun i _ _ => hupc i)
          rw [← hbe] at hbb
          have hua := hu a a0 (by omega)
          have hub := hupc a
          have hms := zmxf_succ (fun a => mA I (-4) a c) (zup (mA I (-4)) (sLeast (mS I (-4))) c.toNat) a0
          rw [← hbe] at hms
          refine wp_iload (t := 12) rfl rfl ?_
          refine wp_iload_n (t := 13) rfl rfl ?_
          refine wp_icmp_ge (t := 14) (tgt := 64) rfl (by decide) (by first | assumption | exact hI0 _ _ | exact zin_and _ _ | (unfold zin; omega) | (unfold zin at *; omega)) (by first | assumption | exact hI0 _ _ | exact zin_and _ _ | (unfold zin; omega) | (unfold zin at *; omega)) (fun h20 => ?_) (fun h20 => ?_)
          · exact absurd h20 (by omega)
          · refine wp_aload_n (t := 15) rfl rfl ?_
            refine wp_iload (t := 16) rfl rfl ?_
            refine wp_iload_n (t := 17) rfl rfl ?_
            refine wp_bipush (t := 18) rfl (by decide) ?_
            refine wp_vi (ci := 10) (c_X10_isAhead (d := d) hW hn (by rw [e34]; exact hru) (by unfold zin; omega) (by unfold zin; omega) (by unfold zin; omega)) (t := 19) rfl kX10_237 rfl rfl (by omega) (by first | rfl | assumption) ⟨_, _, rfl⟩ (Nat.le_of_ble_eq_true rfl) ⟨Nat.le_refl _, Nat.le_refl _⟩ (fun r29 I29 R29 c29 => ?_)
            refine wp_canon (fun hI1 => ?_)
            obtain ⟨e29, zi29, zr29⟩ := c29
            have zi29 := zi29.symm
            subst zi29
            have zr29 := zr29.symm
            subst zr29
            rw [eA] at e29
            have b29 : 0 ≤ r29 ∧ r29 ≤ 1 := by rw [e29]; split <;> omega
            refine wp_if_eq (t := 20) (tgt := 56) rfl (by decide) (by first | assumption | exact hI1 _ _ | exact hI0 _ _ | exact zin_and _ _ | (unfold zin; omega) | (unfold zin at *; omega)) (fun h32 => ?_) (fun h32 => ?_)
            · refine wp_iload_n (t := 32) rfl rfl ?_
              refine wp_istore_n (t := 33) rfl (by decide) rfl ?_
              refine wp_iinc (t := 34) rfl rfl (by decide) rfl ?_
              refine wp_goto (t := 35) (tgt := 17) rfl (by decide) ?_
              exact ihk (a + 1) _ (by omega) (by omega) (by omega) hc9 (by rw [hms, if_neg (fun q => by rw [if_pos q] at e29; omega)])
            · refine wp_aload_n (t := 21) rfl rfl ?_
              refine wp_getR (t := 22) (ji := 41) rfl fX10_82 rfl rfl (by omega) (by first | rfl | assumption) (by first | exact hW _ _ _ (by omega) rfl | assumption) ?_
              refine wp_iload (t := 23) rfl rfl ?_
              refine wp_iaload (t := 24) rfl (by omega) (by first | rfl | assumption) (by omega) (by omega) (by omega) ?_
              rw [hua]
              refine wp_iload_n (t := 25) rfl rfl ?_
              refine wp_icmp_le (t := 26) (tgt := 56) rfl (by decide) (by first | assumption | exact hI1 _ _ | exact hI0 _ _ | exact zin_and _ _ | (unfold zin; omega) | (unfold zin at *; omega)) (by first | assumption | exact hI1 _ _ | exact hI0 _ _ | exact zin_and _ _ | (unfold zin; omega) | (unfold zin at *; omega)) (fun h43 => ?_) (fun h43 => ?_)
              · refine wp_iload_n (t := 32) rfl rfl ?_
                refine wp_istore_n (t := 33) rfl (by decide) rfl ?_
                refine wp_iinc (t := 34) rfl rfl (by decide) rfl ?_
                refine wp_goto (t := 35) (tgt := 17) rfl (by decide) ?_
                refine ihk (a + 1) _ (by omega) (by omega) (by omega) hc9 ?_
                rw [hms, if_pos (Classical.byContradiction (fun q => by rw [if_neg q] at e29; exact h32 e29))]
                omega
              · refine wp_aload_n (t := 27) rfl rfl ?_
                refine wp_getR (t := 28) (ji := 41) rfl fX10_82 rfl rfl (by omega) (by first | rfl | assumption) (by first | exact hW _ _ _ (by omega) rfl | assumption) ?_
                refine wp_iload (t := 29) rfl rfl ?_
                refine wp_iaload (t := 30) rfl (by omega) (by first | rfl | assumption) (by omega) (by omega) (by omega) ?_
                rw [hua]
                refine wp_goto (t := 31) (tgt := 57) rfl (by decide) ?_
                refine wp_istore_n (t := 33) rfl (by decide) rfl ?_
                refine wp_iinc (t := 34) rfl rfl (by decide) rfl ?_
                refine wp_goto (t := 35) (tgt := 17) rfl (by decide) ?_
                refine ihk (a + 1) _ (by omega) (by omega) (by omega) hc9 ?_
                rw [hms, if_pos (Classical.byContradiction (fun q => by rw [if_neg q] at e29; exact h32 e29))]
                omega
      refine wp_iload_n (t := 4) rfl rfl ?_
      refine wp_aload_n (t := 5) rfl rfl ?_
      refine wp_getI (t := 6) (ji := 2) rfl fX10_115 rfl rfl (by omega) (by first | rfl | assumption) ?_
      rw [e34]
      refine wp_icmp_ge (t := 7) (tgt := 104) rfl (by decide) (by first | assumption | exact hI0 _ _ | exact zin_and _ _ | (unfold zin; omega) | (unfold zin at *; omega)) (by first | assumption | exact hI0 _ _ | exact zin_and _ _ | (unfold zin; omega) | (unfold zin at *; omega)) (fun h9 => ?_) (fun h9 => ?_)
      · exact absurd h9 (by omega)
      · refine wp_iconst (t := 8) rfl ?_
        refine wp_istore_n (t := 9) rfl (by decide) rfl ?_
        refine wp_iconst (t := 10) rfl ?_
        refine wp_istore (t := 11) rfl (by decide) rfl ?_
        exact inner _ 0 0 (by omega) (by omega) rfl (by omega) rfl
  refine wp_ls (ls' := [some (zR 115), none, none, none, none]) rfl ?_
  refine wp_iconst (t := 0) rfl ?_
  refine wp_istore_n (t := 1) rfl (by decide) rfl ?_
  refine wp_iconst (t := 2) rfl ?_
  refine wp_istore_n (t := 3) rfl (by decide) rfl ?_
  exact key _ 0 0 I _ _ (by omega) (by omega) rfl (fun _ _ => rfl) (fun x x0 x1 => absurd x1 (by omega)) rfl
