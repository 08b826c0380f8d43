/-! the reference reads a rule, an item, all -/
set_option maxHeartbeats 4000000 in
set_option maxRecDepth 100000 in
theorem c_X10_takesRule {G : zG} {d n : Nat} {I : zMem} {R : zRef} {S : pS} {p : Int} (hW : zWir n R) (hn : 143 ≤ n) (hlen : 0 ≤ I 115 20 ∧ I 115 20 ≤ 200) (hp : 0 ≤ p ∧ p ≤ 200) (hat : I 115 21 = p + 1) (hr : mRd I S) (hS : pGood S) : MT G mX10_takesRule (d + 2) 0 0 [zR 115] n I R (zP1 (fun r I' R' => (r = (if pRok (I 127) (I 115 20) S p then 1 else 0) ∧ (¬ r = 0 → mRd I' (pUpR (I 127) (I 115 20) S p) ∧ I' 115 21 = (pR2 (I 127) (I 115 20) S p).2) ∧ mFr I I') ∧ R' = R)) := by
  refine MT.of (by decide +kernel) tX10_takesRule_ok (Nat.le_of_ble_eq_true rfl) (fun hI0 => ?_)
  have hcn := hr.1.2.2.1
  have hrn := hr.1.2.2.2
  have hco := hS.2.2.1
  have hru := hS.2.2.2.1
  generalize hcv : I 115 25 = c at hcn
  generalize hbv : I 115 26 = b9 at hrn
  generalize hT : I 127 = T at *
  generalize hL : I 115 20 = L at *
  refine wp_ls (ls' := [some (zR 115)]) rfl ?_
  refine wp_aload_n (t := 0) rfl rfl ?_
  refine wp_getI (t := 1) (ji := 26) rfl fX10_166 rfl rfl (by omega) (by first | rfl | assumption) ?_
  rw [hbv]
  refine wp_bipush (t := 2) rfl (by decide) ?_
  refine wp_icmp_eq (t := 3) (tgt := 23) rfl (by decide) (by first | assumption | exact hI0 _ _ | exact zin_and _ _ | (unfold zin; omega) | (unfold zin at *; omega)) (by first | assumption | exact hI0 _ _ | exact zin_and _ _ | (unfold zin; omega) | (unfold zin at *; omega)) (fun h6 => ?_) (fun h6 => ?_)
  · refine wp_iconst (t := 12) rfl ?_
    refine wp_zreturn (t := 13) rfl rfl (by omega) ?_
    exact ⟨_, rfl, ⟨(if_neg (fun k => by have := k.1; omega)).symm, fun q => absurd rfl q, mFr_refl I⟩, rfl⟩
  · refine wp_aload_n (t := 4) rfl rfl ?_
    refine wp_iconst (t := 5) rfl ?_
    refine wp_aload_n (t := 6) rfl rfl ?_
    refine wp_getI (t := 7) (ji := 25) rfl fX10_112 rfl rfl (by omega) (by first | rfl | assumption) ?_
    rw [hcv]
    refine wp_iconst (t := 8) rfl ?_
    refine wp_isub (t := 9) rfl ?_
    refine wp_vi (ci := 10) (c_X10_takesNumber (d := d) hW hn (by rw [hL]; exact hlen) hat ⟨by omega, by omega⟩ (by unfold zin; omega) (by unfold zin; omega)) (t := 10) rfl kX10_155 rfl rfl (by omega) (by first | rfl | assumption) ⟨_, _, rfl⟩ (Nat.le_of_ble_eq_true rfl) ⟨Nat.le_refl _, Nat.le_refl _⟩ (fun r17 I17 R17 c17 => ?_)
    refine wp_canon (fun hI1 => ?_)
    obtain ⟨⟨e17, x17, b17, g17, f17⟩, zr17⟩ := c17
    have zr17 := zr17.symm
    subst zr17
    rw [hT, hL] at e17 x17
    have z17 : 0 ≤ r17 ∧ r17 ≤ 1 := by rcases e17 with q | q <;> omega
    have t17 : I17 127 = T := (f17 127 (by decide)).trans hT
    have l17 : I17 115 20 = L := (g17 20 (by decide) (by decide)).trans hL
    have fr17 : mFr I I17 := ⟨fun b b1 b2 => f17 b b1, fun j hj => g17 j (by omega) (by omega)⟩
    have r1e : pR1 T L S p = pNum T L 0 (c - 1) 44 (p + 1) := by unfold pR1; rw [hcn]
    have yb : I17 115 26 = b9 := by rw [g17 26 (by decide) (by decide)]; exact hbv
    have yc : I17 115 25 = c := by rw [g17 25 (by decide) (by decide)]; exact hcv
    refine wp_if_ne (t := 11) (tgt := 25) rfl (by decide) (by first | assumption | exact hI1 _ _ | exact hI0 _ _ | exact zin_and _ _ | (unfold zin; omega) | (unfold zin at *; omega)) (fun h20 => ?_) (fun h20 => ?_)
    · refine wp_aload_n (t := 14) rfl rfl ?_
      refine wp_getR (t := 15) (ji := 32) rfl fX10_61 rfl rfl (by omega) (by first | rfl | assumption) (by first | exact hW _ _ _ (by omega) rfl | assumption) ?_
      refine wp_aload_n (t := 16) rfl rfl ?_
      refine wp_getI (t := 17) (ji := 26) rfl fX10_166 rfl rfl (by omega) (by first | rfl | assumption) ?_
      rw [yb]
      refine wp_aload_n (t := 18) rfl rfl ?_
      refine wp_getI (t := 19) (ji := 22) rfl fX10_144 rfl rfl (by omega) (by first | rfl | assumption) ?_
      refine wp_iastore (t := 20) rfl (by omega) (by first | rfl | assumption) (by omega) (by omega) (by omega) (by first | assumption | exact hI1 _ _ | exact hI0 _ _ | exact zin_and _ _ | (unfold zin; omega) | (unfold zin at *; omega)) ?_
      refine wp_canon (fun hI2 => ?_)
      refine wp_aload_n (t := 21) rfl rfl ?_
      refine wp_bipush (t := 22) rfl (by decide) ?_
      refine wp_vi (ci := 10) (c_X10_isSign (d := d) hW hn (by rw [zu_ne (by decide), l17]; exact hlen) (by rw [zu_ne (by decide)]; omega) (by omega)) (t := 23) rfl kX10_159 rfl rfl (by omega) (by first | rfl | assumption) ⟨_, _, rfl⟩ (Nat.le_of_ble_eq_true rfl) ⟨Nat.le_refl _, Nat.le_refl _⟩ (fun r41 I41 R41 c41 => ?_)
      refine wp_canon (fun hI3 => ?_)
      obtain ⟨⟨e41, x41, b41, g41, f41⟩, zr41⟩ := c41
      have zr41 := zr41.symm
      subst zr41
      rw [zu_ne (b := 127) (by decide), zu_ne (b := 115) (by decide), t17, l17] at e41
      rw [zu_ne (b := 115) (by decide)] at x41 b41 g41
      have e17 : r17 = 1 ∧ ¬ pFig T L (p + 1) = -4 ∧ I17 115 21 = pEnd T L (p + 1) ∧ I17 115 22 = pVal T L (p + 1) ∧ 0 ≤ pVal T L (p + 1) ∧ pVal T L (p + 1) ≤ c - 1 := by rcases e17 with q | q; omega; exact q
      have z41 : 0 ≤ r41 ∧ r41 ≤ 1 := by rw [e41]; split <;> omega
      have ok41 : ¬ r41 = 0 ↔ pNok T L 0 (c - 1) 44 (p + 1) := by
        rw [e17.2.2.1] at e41
        by_cases q : pLet T L (pEnd T L (p + 1)) = 44
        · rw [if_pos q] at e41
          exact ⟨fun _ => ⟨e17.2.1, q, e17.2.2.2.2⟩, fun _ => by omega⟩
        · rw [if_neg q] at e41
          exact ⟨fun h => by omega, fun h => absurd h.2.1 q⟩
      have t41 : I41 127 = T := by rw [f41 127 (by decide), zu_ne (by decide), t17]
      have l41 : I41 115 20 = L := by rw [g41 20 (by decide), l17]
      have fr41 : mFr I I41 := mFr_trans (mFr_a fr17 (by omega)) ⟨fun b b1 b2 => f41 b b1, fun j hj => by rw [zu_ne (by decide)]; exact g41 j (by omega)⟩
      have k41 : I41 133 = zu I17 133 b9 (I17 115 22) 133 := f41 133 (by decide)
      have yb4 : I41 115 26 = b9 := by rw [g41 26 (by decide)]; exact yb
      have yc4 : I41 115 25 = c := by rw [g41 25 (by decide)]; exact yc
      have ya4 : I41 133 b9 = pVal T L (p + 1) := by rw [k41, zu_eq]; exact e17.2.2.2.1
      refine wp_if_eq (t := 24) (tgt := 71) rfl (by decide) (by first | assumption | exact hI3 _ _ | exact hI2 _ _ | exact hI1 _ _ | exact hI0 _ _ | exact zin_and _ _ | (unfold zin; omega) | (unfold zin at *; omega)) (fun h44 => ?_) (fun h44 => ?_)
      · refine wp_iconst (t := 39) rfl ?_
        refine wp_zreturn (t := 40) rfl rfl (by omega) ?_
        exact ⟨_, rfl, ⟨(if_neg (fun k => ok41.mpr (pNum_iff.mp (by rw [← r1e]; exact k.2.1)) h44)).symm, fun q => absurd rfl q, fr41⟩, rfl⟩
      · refine wp_aload_n (t := 25) rfl rfl ?_
        refine wp_aload_n (t := 26) rfl rfl ?_
        refine wp_getR (t := 27) (ji := 32) rfl fX10_61 rfl rfl (by omega) (by first | rfl | assumption) (by first | exact hW _ _ _ (by omega) rfl | assumption) ?_
        refine wp_aload_n (t := 28) rfl rfl ?_
        refine wp_getI (t := 29) (ji := 26) rfl fX10_166 rfl rfl (by omega) (by first | rfl | assumption) ?_
        rw [yb4]
        refine wp_iaload (t := 30) rfl (by omega) (by first | rfl | assumption) (by omega) (by omega) (by omega) ?_
        rw [ya4]
        refine wp_iconst (t := 31) rfl ?_
        refine wp_iadd (t := 32) rfl ?_
        refine wp_aload_n (t := 33) rfl rfl ?_
        refine wp_getI (t := 34) (ji := 25) rfl fX10_112 rfl rfl (by omega) (by first | rfl | assumption) ?_
        rw [yc4]
        refine wp_iconst (t := 35) rfl ?_
        refine wp_isub (t := 36) rfl ?_
        refine wp_vi (ci := 10) (c_X10_takesNumber (d := d) (p := (pR1 T L S p).2) hW hn (by rw [l41]; exact hlen) (by rw [x41 h44, e17.2.2.1, r1e]; exact (pNok_num (ok41.mp h44)).2.2.symm) (by rw [r1e]; have := (pNok_num (ok41.mp h44)).2.2; have := pEnd_b T L (p + 1); omega) (by unfold zin; omega) (by unfold zin; omega)) (t := 37) rfl kX10_155 rfl rfl (by omega) (by first | rfl | assumption) ⟨_, _, rfl⟩ (Nat.le_of_ble_eq_true rfl) ⟨Nat.le_refl _, Nat.le_refl _⟩ (fun r65 I65 R65 c65 => ?_)
        refine wp_canon (fun hI4 => ?_)
        obtain ⟨⟨e65, x65, b65, g65, f65⟩, zr65⟩ := c65
        have zr65 := zr65.symm
        subst zr65
        rw [t41, l41] at e65 x65
        have z65 : 0 ≤ r65 ∧ r65 ≤ 1 := by rcases e65 with q | q <;> omega
        have t65 : I65 127 = T := (f65 127 (by decide)).trans t41
        have l65 : I65 115 20 = L := (g65 20 (by decide) (by decide)).trans l41
        have fr65 : mFr I I65 := mFr_trans fr41 ⟨fun b b1 b2 => f65 b b1, fun j hj => g65 j (by omega) (by omega)⟩
        have n1 := pNok_num (ok41.mp h44)
        have pb1 := pEnd_b T L (p + 1)
        have n1v : (pR1 T L S p).1 = pVal T L (p + 1) := by rw [r1e]; exact n1.2.1
        have n1b : (pR1 T L S p).2 = pEnd T L (p + 1) + 1 := by rw [r1e]; exact n1.2.2
        have r2e : pR2 T L S p = pNum T L 0 (c - 1) 59 (pR1 T L S p).2 := by unfold pR2; rw [hcn]
        generalize hp2 : (pR1 T L S p).2 = p2 at *
        have yb6 : I65 115 26 = b9 := by rw [g65 26 (by decide) (by decide)]; exact yb4
        refine wp_if_ne (t := 38) (tgt := 73) rfl (by decide) (by first | assumption | exact hI4 _ _ | exact hI3 _ _ | exact hI2 _ _ | exact hI1 _ _ | exact hI0 _ _ | exact zin_and _ _ | (unfold zin; omega) | (unfold zin at *; omega)) (fun h68 => ?_) (fun h68 => ?_)
        · refine wp_aload_n (t := 41) rfl rfl ?_
          refine wp_getR (t := 42) (ji := 33) rfl fX10_64 rfl rfl (by omega) (by first | rfl | assumption) (by first | exact hW _ _ _ (by omega) rfl | assumption) ?_
          refine wp_aload_n (t := 43) rfl rfl ?_
          refine wp_getI (t := 44) (ji := 26) rfl fX10_166 rfl rfl (by omega) (by first | rfl | assumption) ?_
          rw [yb6]
          refine wp_aload_n (t := 45) rfl rfl ?_
          refine wp_getI (t := 46) (ji := 22) rfl fX10_144 rfl rfl (by omega) (by first | rfl | assumption) ?_
          refine wp_iastore (t := 47) rfl (by omega) (by first | rfl | assumption) (by omega) (by omega) (by omega) (by first | assumption | exact hI4 _ _ | exact hI3 _ _ | exact hI2 _ _ | exact hI1 _ _ | exact hI0 _ _ | exact zin_and _ _ | (unfold zin; omega) | (unfold zin at *; omega)) ?_
          refine wp_canon (fun hI5 => ?_)
          refine wp_aload_n (t := 48) rfl rfl ?_
          refine wp_dup (t := 49) rfl rfl ?_
          refine wp_getI (t := 50) (ji := 26) rfl fX10_166 rfl rfl (by omega) (by first | rfl | assumption) ?_
          rw [zu_ne (b := 115) (by decide), yb6]
          refine wp_iconst (t := 51) rfl ?_
          refine wp_iadd (t := 52) rfl ?_
          refine wp_putI (t := 53) (ji := 26) rfl fX10_166 p10_26 rfl rfl (by omega) (by first | rfl | assumption) (by first | assumption | exact hI5 _ _ | exact hI4 _ _ | exact hI3 _ _ | exact hI2 _ _ | exact hI1 _ _ | exact hI0 _ _ | exact zin_and _ _ | (unfold zin; omega) | (unfold zin at *; omega)) ?_
          refine wp_canon (fun hI6 => ?_)
          refine wp_aload_n (t := 54) rfl rfl ?_
          refine wp_bipush (t := 55) rfl (by decide) ?_
          refine wp_vi (ci := 10) (c_X10_isSign (d := d) hW hn (by rw [zu_ni (by decide), zu_ne (by decide), l65]; exact hlen) (by rw [zu_ni (by decide), zu_ne (by decide)]; omega) (by omega)) (t := 56) rfl kX10_159 rfl rfl (by omega) (by first | rfl | assumption) ⟨_, _, rfl⟩ (Nat.le_of_ble_eq_true rfl) ⟨Nat.le_refl _, Nat.le_refl _⟩ (fun r99 I99 R99 c99 => ?_)
          refine wp_canon (fun hI7 => ?_)
          obtain ⟨⟨e99, x99, b99, g99, f99⟩, zr99⟩ := c99
          have zr99 := zr99.symm
          subst zr99
          have w1 : zu (zu I65 134 b9 (I65 115 22)) 115 26 (b9 + 1) 127 = T := by rw [zu_ne (by decide), zu_ne (by decide), t65]
          have w2 : zu (zu I65 134 b9 (I65 115 22)) 115 26 (b9 + 1) 115 20 = L := by rw [zu_ni (by decide), zu_ne (by decide), l65]
          have w3 : zu (zu I65 134 b9 (I65 115 22)) 115 26 (b9 + 1) 115 21 = I65 115 21 := by rw [zu_ni (by decide), zu_ne (by decide)]
          rw [w1, w2, w3] at e99
          rw [w3] at x99
          have e65 : r65 = 1 ∧ ¬ pFig T L p2 = -4 ∧ I65 115 21 = pEnd T L p2 ∧ I65 115 22 = pVal T L p2 ∧ pVal T L (p + 1) + 1 ≤ pVal T L p2 ∧ pVal T L p2 ≤ c - 1 := by rcases e65 with q | q; omega; exact q
          have z99 : 0 ≤ r99 ∧ r99 ≤ 1 := by rw [e99]; split <;> omega
          have ok99 : ¬ r99 = 0 ↔ pNok T L 0 (c - 1) 59 p2 := by
            rw [e65.2.2.1] at e99
            by_cases q : pLet T L (pEnd T L p2) = 59
            · rw [if_pos q] at e99
              exact ⟨fun _ => ⟨e65.2.1, q, by omega, by omega⟩, fun _ => by omega⟩
            · rw [if_neg q] at e99
              exact ⟨fun h => by omega, fun h => absurd h.2.1 q⟩
          have fr99 : mFr I I99 := mFr_trans (mFr_u (mFr_a fr65 (by omega)) (by omega)) ⟨fun b b1 b2 => f99 b b1, fun j hj => g99 j (by omega)⟩
          refine wp_zreturn (t := 57) rfl rfl (by omega) ?_
          by_cases okk : r99 = 0
          · rw [okk]
            exact ⟨_, rfl, ⟨(if_neg (fun k => ok99.mpr (pNum_iff.mp (by rw [← r2e]; exact k.2.2.1)) okk)).symm, fun q => absurd rfl q, fr99⟩, rfl⟩
          have n2 := pNok_num (ok99.mp okk)
          have n2v : (pR2 T L S p).1 = pVal T L p2 := by rw [r2e]; exact n2.2.1
          have n2b : (pR2 T L S p).2 = pEnd T L p2 + 1 := by rw [r2e]; exact n2.2.2
          have ok1 : ¬ (pR1 T L S p).1 = -4 := by rw [r1e]; exact n1.1
          have ok2 : ¬ (pR2 T L S p).1 = -4 := by rw [r2e]; exact n2.1
          refine ⟨_, rfl, ⟨by rw [if_pos ⟨by omega, ok1, ok2, by omega⟩]; omega, fun _ => ⟨?_, by rw [x99 okk, n2b, e65.2.2.1]⟩, fr99⟩, rfl⟩
          obtain ⟨⟨q1, q2, q3, q4⟩, q5, q6⟩ := hr
          have gg : ∀ j : Int, j ≠ 21 → j ≠ 22 → j ≠ 26 → I99 115 j = I 115 j := fun j j1 j2 j3 => by rw [g99 j j1, zu_ni j3, zu_ne (by decide), g65 j j1 j2, g41 j j1, g17 j j1 j2]
          have fA : ∀ b : Nat, b ≠ 115 → b < 133 → I99 b = I b := fun b b1 b2 => by rw [f99 b b1, zu_ne b1, zu_ne (by omega), f65 b b1, f41 b b1, zu_ne (by omega), f17 b b1]
          have i133 : I99 133 = I41 133 := by rw [f99 133 (by decide), zu_ne (by decide), zu_ne (by decide), f65 133 (by decide)]
          have i134 : I65 134 = I 134 := by rw [f65 134 (by decide), f41 134 (by decide), zu_ne (by decide), f17 134 (by decide)]
          have i17 : I17 133 = I 133 := f17 133 (by decide)
          refine ⟨⟨?_, ?_, ?_, ?_⟩, fun a a0 a1 => ?_, fun b b0 b1 => ?_⟩
          · rw [gg 23 (by decide) (by decide) (by decide)]; exact q1
          · rw [gg 24 (by decide) (by decide) (by decide)]; exact q2
          · rw [gg 25 (by decide) (by decide) (by decide)]; exact q3
          · rw [g99 26 (by decide), zu_eq, hrn]; rfl
          · rw [fA 128 (by decide) (by decide), fA 129 (by decide) (by decide), fA 130 (by decide) (by decide), fA 131 (by decide) (by decide), fA 132 (by decide) (by decide)]
            exact q5 a a0 a1
          · have b1 : b < S.1.2.2.2 + 1 := b1
            show _ = pu S.2.2.2.2.2.2.1 S.1.2.2.2 (pR1 T L S p).1 b ∧ _ = pu S.2.2.2.2.2.2.2 S.1.2.2.2 (pR2 T L S p).1 b
            rw [← hrn, i133, f99 134 (by decide), zu_ne (b := 134) (by decide)]
            by_cases e : b = b9
            · rw [e, pu_i, pu_i, zu_eq, ya4]
              exact ⟨n1v.symm, by rw [n2v]; exact e65.2.2.2.1⟩
            · rw [pu_n e, pu_n e, k41, zu_ni e, zu_ni e, i17, i134]
              exact q6 b b0 (by omega)
        · refine wp_iconst (t := 39) rfl ?_
          refine wp_zreturn (t := 40) rfl rfl (by omega) ?_
          refine ⟨_, rfl, ⟨(if_neg (fun k => ?_)).symm, fun q => absurd rfl q, fr65⟩, rfl⟩
          have k2 := pNum_iff.mp (by rw [← r2e]; exact k.2.2.1)
          have k3 := (pNok_num k2).2.1
          rw [← r2e] at k3
          have k4 := k.2.2.2
          exact x65 (by omega) 59 (Or.inr rfl) ⟨k2.1, k2.2.1, by omega, k2.2.2.2⟩
    · refine wp_iconst (t := 12) rfl ?_
      refine wp_zreturn (t := 13) rfl rfl (by omega) ?_
      exact ⟨_, rfl, ⟨(if_neg (fun k => x17 (by omega) 44 (Or.inl rfl) (pNum_iff.mp (by rw [← r1e]; exact k.2.1)))).symm, fun q => absurd rfl q, fr17⟩, rfl⟩
