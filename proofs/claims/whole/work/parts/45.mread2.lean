/-! the reference reads a core, a rule, an item, all -/
/-- the new chip in the reference as it has been told -/
def mRd (I : zMem) (S : pS) : Prop := (I 115 23 = S.1.1 ∧ I 115 24 = S.1.2.1 ∧ I 115 25 = S.1.2.2.1 ∧ I 115 26 = S.1.2.2.2) ∧
  (∀ c : Int, 0 ≤ c → c < S.1.2.2.1 → I 128 c = S.2.1 c ∧ I 129 c = S.2.2.1 c ∧ I 130 c = S.2.2.2.1 c ∧ I 131 c = S.2.2.2.2.1 c ∧ ∀ i : Int, 0 ≤ i → i < S.2.2.2.2.1 c → I 132 (6 * c + i) = S.2.2.2.2.2.1 c i) ∧
  (∀ b : Int, 0 ≤ b → b < S.1.2.2.2 → I 133 b = S.2.2.2.2.2.2.1 b ∧ I 134 b = S.2.2.2.2.2.2.2 b)
theorem mRd_ext {I J : zMem} {S : pS} (h : ∀ b : Nat, 128 ≤ b → b ≤ 134 → J b = I b) (h2 : ∀ j : Int, 23 ≤ j → j ≤ 26 → J 115 j = I 115 j) (hr : mRd I S) : mRd J S := by
  unfold mRd at hr ⊢
  rw [h 128 (by omega) (by omega), h 129 (by omega) (by omega), h 130 (by omega) (by omega), h 131 (by omega) (by omega), h 132 (by omega) (by omega), h 133 (by omega) (by omega), h 134 (by omega) (by omega), h2 23 (by omega) (by omega), h2 24 (by omega) (by omega), h2 25 (by omega) (by omega), h2 26 (by omega) (by omega)]
  exact hr
/-- a number and its sign, read: both or not -/
theorem pNok_num {T : Int → Int} {L lo hi sg p : Int} (h : pNok T L lo hi sg p) : ¬ (pNum T L lo hi sg p).1 = -4 ∧ (pNum T L lo hi sg p).1 = pVal T L p ∧ (pNum T L lo hi sg p).2 = pEnd T L p + 1 := by
  rw [pNum_ok h]
  have := pVal_b h.1
  exact ⟨by show ¬ pVal T L p = -4; omega, rfl, rfl⟩
theorem pNum_iff {T : Int → Int} {L lo hi sg p : Int} : ¬ (pNum T L lo hi sg p).1 = -4 ↔ pNok T L lo hi sg p := by
  constructor
  · intro h
    by_cases q : pNok T L lo hi sg p
    · exact q
    · rw [pNum_no q] at h
      exact absurd rfl h
  · exact fun h => (pNok_num h).1
set_option maxHeartbeats 4000000 in
set_option maxRecDepth 100000 in
theorem c_X10_takesCore {G : zG} {d n : Nat} {I : zMem} {R : zRef} {S : pS} {p : Int} (hW : zWir n R) (hn : 143 ≤ n) (hlen : 0 ≤ I 115 20 ∧ I 115 20 ≤ 200) (hp : 0 ≤ p ∧ p ≤ 200) (hat : I 115 21 = p + 1) (hr : mRd I S) (hS : pGood S) : MT G mX10_takesCore (d + 2) 0 0 [zR 115] n I R (zP1 (fun r I' R' => (r = (if pCok (I 127) (I 115 20) S p then 1 else 0) ∧ (¬ r = 0 → mRd I' (pUpC (I 127) (I 115 20) S p) ∧ I' 115 21 = (pC3 (I 127) (I 115 20) p).2 + pCm (I 127) (I 115 20) p + 1) ∧ mFr I I') ∧ R' = R)) := by
  refine MT.of (by decide +kernel) tX10_takesCore_ok (Nat.le_of_ble_eq_true rfl) (fun hI0 => ?_)
  have hcn := hr.1.2.2.1
  have hco := hS.2.2.1
  generalize hcv : I 115 25 = c at hcn
  generalize hT : I 127 = T at *
  generalize hL : I 115 20 = L at *
  refine wp_ls (ls' := [some (zR 115), none]) rfl ?_
  refine wp_aload_n (t := 0) rfl rfl ?_
  refine wp_getI (t := 1) (ji := 25) rfl fX10_112 rfl rfl (by omega) (by first | rfl | assumption) ?_
  rw [hcv]
  refine wp_istore_n (t := 2) rfl (by decide) rfl ?_
  refine wp_iload_n (t := 3) rfl rfl ?_
  refine wp_bipush (t := 4) rfl (by decide) ?_
  refine wp_icmp_eq (t := 5) (tgt := 20) rfl (by decide) (by first | assumption | exact hI0 _ _ | exact zin_and _ _ | (unfold zin; omega) | (unfold zin at *; omega)) (by first | assumption | exact hI0 _ _ | exact zin_and _ _ | (unfold zin; omega) | (unfold zin at *; omega)) (fun h8 => ?_) (fun h8 => ?_)
  · refine wp_iconst (t := 11) rfl ?_
    refine wp_zreturn (t := 12) rfl rfl (by omega) ?_
    exact ⟨_, rfl, ⟨(if_neg (fun k => by have := k.1; omega)).symm, fun q => absurd rfl q, mFr_refl I⟩, rfl⟩
  · refine wp_aload_n (t := 6) rfl rfl ?_
    refine wp_iconst (t := 7) rfl ?_
    refine wp_iconst (t := 8) rfl ?_
    refine wp_vi (ci := 10) (c_X10_takesNumber (d := d) hW hn (by rw [hL]; exact hlen) hat ⟨by omega, by omega⟩ (by unfold zin; omega) (by unfold zin; omega)) (t := 9) rfl kX10_155 rfl rfl (by omega) (by first | rfl | assumption) ⟨_, _, rfl⟩ (Nat.le_of_ble_eq_true rfl) ⟨Nat.le_refl _, Nat.le_refl _⟩ (fun r14 I14 R14 c14 => ?_)
    refine wp_canon (fun hI1 => ?_)
    obtain ⟨⟨e14, x14, b14, g14, f14⟩, zr14⟩ := c14
    have zr14 := zr14.symm
    subst zr14
    rw [hT, hL] at e14 x14
    have z14 : 0 ≤ r14 ∧ r14 ≤ 1 := by rcases e14 with q | q <;> omega
    have t14 : I14 127 = T := (f14 127 (by decide)).trans hT
    have l14 : I14 115 20 = L := (g14 20 (by decide) (by decide)).trans hL
    have fr14 : mFr I I14 := ⟨fun b b1 b2 => f14 b b1, fun j hj => g14 j (by omega) (by omega)⟩
    refine wp_if_ne (t := 10) (tgt := 22) rfl (by decide) (by first | assumption | exact hI1 _ _ | exact hI0 _ _ | exact zin_and _ _ | (unfold zin; omega) | (unfold zin at *; omega)) (fun h17 => ?_) (fun h17 => ?_)
    · refine wp_aload_n (t := 13) rfl rfl ?_
      refine wp_getR (t := 14) (ji := 27) rfl fX10_46 rfl rfl (by omega) (by first | rfl | assumption) (by first | exact hW _ _ _ (by omega) rfl | assumption) ?_
      refine wp_iload_n (t := 15) rfl rfl ?_
      refine wp_aload_n (t := 16) rfl rfl ?_
      refine wp_getI (t := 17) (ji := 22) rfl fX10_144 rfl rfl (by omega) (by first | rfl | assumption) ?_
      refine wp_iastore (t := 18) rfl (by omega) (by first | rfl | assumption) (by omega) (by omega) (by omega) (by first | assumption | exact hI1 _ _ | exact hI0 _ _ | exact zin_and _ _ | (unfold zin; omega) | (unfold zin at *; omega)) ?_
      refine wp_canon (fun hI2 => ?_)
      refine wp_aload_n (t := 19) rfl rfl ?_
      refine wp_bipush (t := 20) rfl (by decide) ?_
      refine wp_vi (ci := 10) (c_X10_isSign (d := d) hW hn (by rw [zu_ne (by decide), l14]; exact hlen) (by rw [zu_ne (by decide)]; omega) (by omega)) (t := 21) rfl kX10_159 rfl rfl (by omega) (by first | rfl | assumption) ⟨_, _, rfl⟩ (Nat.le_of_ble_eq_true rfl) ⟨Nat.le_refl _, Nat.le_refl _⟩ (fun r35 I35 R35 c35 => ?_)
      refine wp_canon (fun hI3 => ?_)
      obtain ⟨⟨e35, x35, b35, g35, f35⟩, zr35⟩ := c35
      have zr35 := zr35.symm
      subst zr35
      rw [zu_ne (b := 127) (by decide), zu_ne (b := 115) (by decide), t14, l14] at e35
      rw [zu_ne (b := 115) (by decide)] at x35 b35 g35
      have e14 : r14 = 1 ∧ ¬ pFig T L (p + 1) = -4 ∧ I14 115 21 = pEnd T L (p + 1) ∧ I14 115 22 = pVal T L (p + 1) ∧ 0 ≤ pVal T L (p + 1) ∧ pVal T L (p + 1) ≤ 3 := by rcases e14 with q | q; omega; exact q
      have z35 : 0 ≤ r35 ∧ r35 ≤ 1 := by rw [e35]; split <;> omega
      have ok35 : ¬ r35 = 0 ↔ pNok T L 0 3 44 (p + 1) := by
        rw [e14.2.2.1] at e35
        by_cases q : pLet T L (pEnd T L (p + 1)) = 44
        · rw [if_pos q] at e35
          exact ⟨fun _ => ⟨e14.2.1, q, e14.2.2.2.2⟩, fun _ => by omega⟩
        · rw [if_neg q] at e35
          exact ⟨fun h => by omega, fun h => absurd h.2.1 q⟩
      have t35 : I35 127 = T := by rw [f35 127 (by decide), zu_ne (by decide), t14]
      have l35 : I35 115 20 = L := by rw [g35 20 (by decide), l14]
      have fr35 : mFr I I35 := mFr_trans (mFr_a fr14 (by omega)) ⟨fun b b1 b2 => f35 b b1, fun j hj => by rw [zu_ne (by decide)]; exact g35 j (by omega)⟩
      have k35 : I35 128 = zu I14 128 c (I14 115 22) 128 := f35 128 (by decide)
      refine wp_if_eq (t := 22) (tgt := 51) rfl (by decide) (by first | assumption | exact hI3 _ _ | exact hI2 _ _ | exact hI1 _ _ | exact hI0 _ _ | exact zin_and _ _ | (unfold zin; omega) | (unfold zin at *; omega)) (fun h38 => ?_) (fun h38 => ?_)
      · refine wp_iconst (t := 28) rfl ?_
        refine wp_zreturn (t := 29) rfl rfl (by omega) ?_
        exact ⟨_, rfl, ⟨(if_neg (fun k => ok35.mpr (pNum_iff.mp k.2.1) h38)).symm, fun q => absurd rfl q, fr35⟩, rfl⟩
      · refine wp_aload_n (t := 23) rfl rfl ?_
        refine wp_iconst (t := 24) rfl ?_
        refine wp_bipush (t := 25) rfl (by decide) ?_
        refine wp_vi (ci := 10) (c_X10_takesNumber (d := d) (p := (pC1 T L p).2) hW hn (by rw [l35]; exact hlen) (by rw [x35 h38, e14.2.2.1]; exact (pNok_num (ok35.mp h38)).2.2.symm) (by have := (pNok_num (ok35.mp h38)).2.2; have := pEnd_b T L (p + 1); unfold pC1; omega) (by unfold zin; omega) (by unfold zin; omega)) (t := 26) rfl kX10_155 rfl rfl (by omega) (by first | rfl | assumption) ⟨_, _, rfl⟩ (Nat.le_of_ble_eq_true rfl) ⟨Nat.le_refl _, Nat.le_refl _⟩ (fun r45 I45 R45 c45 => ?_)
        refine wp_canon (fun hI4 => ?_)
        obtain ⟨⟨e45, x45, b45, g45, f45⟩, zr45⟩ := c45
        have zr45 := zr45.symm
        subst zr45
        rw [t35, l35] at e45 x45
        have z45 : 0 ≤ r45 ∧ r45 ≤ 1 := by rcases e45 with q | q <;> omega
        have t45 : I45 127 = T := (f45 127 (by decide)).trans t35
        have l45 : I45 115 20 = L := (g45 20 (by decide) (by decide)).trans l35
        have fr45 : mFr I I45 := mFr_trans fr35 ⟨fun b b1 b2 => f45 b b1, fun j hj => g45 j (by omega) (by omega)⟩
        have n1 := pNok_num (ok35.mp h38)
        have pb1 := pEnd_b T L (p + 1)
        have n1b : (pC1 T L p).2 = pEnd T L (p + 1) + 1 := n1.2.2
        refine wp_if_ne (t := 27) (tgt := 53) rfl (by decide) (by first | assumption | exact hI4 _ _ | exact hI3 _ _ | exact hI2 _ _ | exact hI1 _ _ | exact hI0 _ _ | exact zin_and _ _ | (unfold zin; omega) | (unfold zin at *; omega)) (fun h48 => ?_) (fun h48 => ?_)
        · refine wp_aload_n (t := 30) rfl rfl ?_
          refine wp_getR (t := 31) (ji := 28) rfl fX10_49 rfl rfl (by omega) (by first | rfl | assumption) (by first | exact hW _ _ _ (by omega) rfl | assumption) ?_
          refine wp_iload_n (t := 32) rfl rfl ?_
          refine wp_aload_n (t := 33) rfl rfl ?_
          refine wp_getI (t := 34) (ji := 22) rfl fX10_144 rfl rfl (by omega) (by first | rfl | assumption) ?_
          refine wp_iastore (t := 35) rfl (by omega) (by first | rfl | assumption) (by omega) (by omega) (by omega) (by first | assumption | exact hI4 _ _ | exact hI3 _ _ | exact hI2 _ _ | exact hI1 _ _ | exact hI0 _ _ | exact zin_and _ _ | (unfold zin; omega) | (unfold zin at *; omega)) ?_
          refine wp_canon (fun hI5 => ?_)
          refine wp_aload_n (t := 36) rfl rfl ?_
          refine wp_bipush (t := 37) rfl (by decide) ?_
          refine wp_vi (ci := 10) (c_X10_isSign (d := d) hW hn (by rw [zu_ne (by decide), l45]; exact hlen) (by rw [zu_ne (by decide)]; omega) (by omega)) (t := 38) rfl kX10_159 rfl rfl (by omega) (by first | rfl | assumption) ⟨_, _, rfl⟩ (Nat.le_of_ble_eq_true rfl) ⟨Nat.le_refl _, Nat.le_refl _⟩ (fun r66 I66 R66 c66 => ?_)
          refine wp_canon (fun hI6 => ?_)
          obtain ⟨⟨e66, x66, b66, g66, f66⟩, zr66⟩ := c66
          have zr66 := zr66.symm
          subst zr66
          rw [zu_ne (b := 127) (by decide), zu_ne (b := 115) (by decide), t45, l45] at e66
          rw [zu_ne (b := 115) (by decide)] at x66 b66 g66
          generalize hp2 : (pC1 T L p).2 = p2 at *
          have e45 : r45 = 1 ∧ ¬ pFig T L p2 = -4 ∧ I45 115 21 = pEnd T L p2 ∧ I45 115 22 = pVal T L p2 ∧ 1 ≤ pVal T L p2 ∧ pVal T L p2 ≤ 20 := by rcases e45 with q | q; omega; exact q
          have z66 : 0 ≤ r66 ∧ r66 ≤ 1 := by rw [e66]; split <;> omega
          have ok66 : ¬ r66 = 0 ↔ pNok T L 1 20 44 p2 := by
            rw [e45.2.2.1] at e66
            by_cases q : pLet T L (pEnd T L p2) = 44
            · rw [if_pos q] at e66
              exact ⟨fun _ => ⟨e45.2.1, q, e45.2.2.2.2⟩, fun _ => by omega⟩
            · rw [if_neg q] at e66
              exact ⟨fun h => by omega, fun h => absurd h.2.1 q⟩
          have c2e : pC2 T L p = pNum T L 1 20 44 p2 := by unfold pC2; rw [hp2]
          have t66 : I66 127 = T := by rw [f66 127 (by decide), zu_ne (by decide), t45]
          have l66 : I66 115 20 = L := by rw [g66 20 (by decide), l45]
          have fr66 : mFr I I66 := mFr_trans (mFr_a fr45 (by omega)) ⟨fun b b1 b2 => f66 b b1, fun j hj => by rw [zu_ne (by decide)]; exact g66 j (by omega)⟩
          have k66 : I66 129 = zu I45 129 c (I45 115 22) 129 := f66 129 (by decide)
          have k66a : I66 128 = I35 128 := by rw [f66 128 (by decide), zu_ne (by decide), f45 128 (by decide)]
          refine wp_if_eq (t := 39) (tgt := 82) rfl (by decide) (by first | assumption | exact hI6 _ _ | exact hI5 _ _ | exact hI4 _ _ | exact hI3 _ _ | exact hI2 _ _ | exact hI1 _ _ | exact hI0 _ _ | exact zin_and _ _ | (unfold zin; omega) | (unfold zin at *; omega)) (fun h69 => ?_) (fun h69 => ?_)
          · refine wp_iconst (t := 45) rfl ?_
            refine wp_zreturn (t := 46) rfl rfl (by omega) ?_
            exact ⟨_, rfl, ⟨(if_neg (fun k => ok66.mpr (pNum_iff.mp (by rw [← c2e]; exact k.2.2.1)) h69)).symm, fun q => absurd rfl q, fr66⟩, rfl⟩
          · refine wp_aload_n (t := 40) rfl rfl ?_
            refine wp_iconst (t := 41) rfl ?_
            refine wp_bipush (t := 42) rfl (by decide) ?_
            refine wp_vi (ci := 10) (c_X10_takesNumber (d := d) (p := (pC2 T L p).2) hW hn (by rw [l66]; exact hlen) (by rw [x66 h69, e45.2.2.1, c2e]; exact (pNok_num (ok66.mp h69)).2.2.symm) (by rw [c2e]; have := (pNok_num (ok66.mp h69)).2.2; have := pEnd_b T L p2; omega) (by unfold zin; omega) (by unfold zin; omega)) (t := 43) rfl kX10_155 rfl rfl (by omega) (by first | rfl | assumption) ⟨_, _, rfl⟩ (Nat.le_of_ble_eq_true rfl) ⟨Nat.le_refl _, Nat.le_refl _⟩ (fun r76 I76 R76 c76 => ?_)
            refine wp_canon (fun hI7 => ?_)
            obtain ⟨⟨e76, x76, b76, g76, f76⟩, zr76⟩ := c76
            have zr76 := zr76.symm
            subst zr76
            rw [t66, l66] at e76 x76
            have z76 : 0 ≤ r76 ∧ r76 ≤ 1 := by rcases e76 with q | q <;> omega
            have t76 : I76 127 = T := (f76 127 (by decide)).trans t66
            have l76 : I76 115 20 = L := (g76 20 (by decide) (by decide)).trans l66
            have fr76 : mFr I I76 := mFr_trans fr66 ⟨fun b b1 b2 => f76 b b1, fun j hj => g76 j (by omega) (by omega)⟩
            have n2 := pNok_num (ok66.mp h69)
            have pb2 := pEnd_b T L p2
            have n2b : (pC2 T L p).2 = pEnd T L p2 + 1 := by rw [c2e]; exact n2.2.2
            refine wp_if_ne (t := 44) (tgt := 84) rfl (by decide) (by first | assumption | exact hI7 _ _ | exact hI6 _ _ | exact hI5 _ _ | exact hI4 _ _ | exact hI3 _ _ | exact hI2 _ _ | exact hI1 _ _ | exact hI0 _ _ | exact zin_and _ _ | (unfold zin; omega) | (unfold zin at *; omega)) (fun h79 => ?_) (fun h79 => ?_)
            · refine wp_aload_n (t := 47) rfl rfl ?_
              refine wp_getR (t := 48) (ji := 29) rfl fX10_52 rfl rfl (by omega) (by first | rfl | assumption) (by first | exact hW _ _ _ (by omega) rfl | assumption) ?_
              refine wp_iload_n (t := 49) rfl rfl ?_
              refine wp_aload_n (t := 50) rfl rfl ?_
              refine wp_getI (t := 51) (ji := 22) rfl fX10_144 rfl rfl (by omega) (by first | rfl | assumption) ?_
              refine wp_iastore (t := 52) rfl (by omega) (by first | rfl | assumption) (by omega) (by omega) (by omega) (by first | assumption | exact hI7 _ _ | exact hI6 _ _ | exact hI5 _ _ | exact hI4 _ _ | exact hI3 _ _ | exact hI2 _ _ | exact hI1 _ _ | exact hI0 _ _ | exact zin_and _ _ | (unfold zin; omega) | (unfold zin at *; omega)) ?_
              refine wp_canon (fun hI8 => ?_)
              refine wp_aload_n (t := 53) rfl rfl ?_
              refine wp_bipush (t := 54) rfl (by decide) ?_
              refine wp_vi (ci := 10) (c_X10_isSign (d := d) hW hn (by rw [zu_ne (by decide), l76]; exact hlen) (by rw [zu_ne (by decide)]; omega) (by omega)) (t := 55) rfl kX10_159 rfl rfl (by omega) (by first | rfl | assumption) ⟨_, _, rfl⟩ (Nat.le_of_ble_eq_true rfl) ⟨Nat.le_refl _, Nat.le_refl _⟩ (fun r97 I97 R97 c97 => ?_)
              refine wp_canon (fun hI9 => ?_)
              obtain ⟨⟨e97, x97, b97, g97, f97⟩, zr97⟩ := c97
              have zr97 := zr97.symm
              subst zr97
              rw [zu_ne (b := 127) (by decide), zu_ne (b := 115) (by decide), t76, l76] at e97
              rw [zu_ne (b := 115) (by decide)] at x97 b97 g97
              generalize hp3 : (pC2 T L p).2 = p3 at *
              have e76 : r76 = 1 ∧ ¬ pFig T L p3 = -4 ∧ I76 115 21 = pEnd T L p3 ∧ I76 115 22 = pVal T L p3 ∧ 1 ≤ pVal T L p3 ∧ pVal T L p3 ≤ 30 := by rcases e76 with q | q; omega; exact q
              have z97 : 0 ≤ r97 ∧ r97 ≤ 1 := by rw [e97]; split <;> omega
              have ok97 : ¬ r97 = 0 ↔ pNok T L 1 30 44 p3 := by
                rw [e76.2.2.1] at e97
                by_cases q : pLet T L (pEnd T L p3) = 44
                · rw [if_pos q] at e97
                  exact ⟨fun _ => ⟨e76.2.1, q, e76.2.2.2.2⟩, fun _ => by omega⟩
                · rw [if_neg q] at e97
                  exact ⟨fun h => by omega, fun h => absurd h.2.1 q⟩
              have c3e : pC3 T L p = pNum T L 1 30 44 p3 := by unfold pC3; rw [hp3]
              have t97 : I97 127 = T := by rw [f97 127 (by decide), zu_ne (by decide), t76]
              have l97 : I97 115 20 = L := by rw [g97 20 (by decide), l76]
              have fr97 : mFr I I97 := mFr_trans (mFr_a fr76 (by omega)) ⟨fun b b1 b2 => f97 b b1, fun j hj => by rw [zu_ne (by decide)]; exact g97 j (by omega)⟩
              have k97 : I97 130 = zu I76 130 c (I76 115 22) 130 := f97 130 (by decide)
              have k97a : I97 128 = I35 128 := by rw [f97 128 (by decide), zu_ne (by decide), f76 128 (by decide), k66a]
              have k97b : I97 129 = I66 129 := by rw [f97 129 (by decide), zu_ne (by decide), f76 129 (by decide)]
              refine wp_if_eq (t := 56) (tgt := 120) rfl (by decide) (by first | assumption | exact hI9 _ _ | exact hI8 _ _ | exact hI7 _ _ | exact hI6 _ _ | exact hI5 _ _ | exact hI4 _ _ | exact hI3 _ _ | exact hI2 _ _ | exact hI1 _ _ | exact hI0 _ _ | exact zin_and _ _ | (unfold zin; omega) | (unfold zin at *; omega)) (fun h100 => ?_) (fun h100 => ?_)
              · refine wp_iconst (t := 65) rfl ?_
                refine wp_zreturn (t := 66) rfl rfl (by omega) ?_
                exact ⟨_, rfl, ⟨(if_neg (fun k => ok97.mpr (pNum_iff.mp (by rw [← c3e]; exact k.2.2.2.1)) h100)).symm, fun q => absurd rfl q, fr97⟩, rfl⟩
              · refine wp_aload_n (t := 57) rfl rfl ?_
                refine wp_iload_n (t := 58) rfl rfl ?_
                have n3 := pNok_num (ok97.mp h100)
                have pb3 := pEnd_b T L p3
                have n3b : (pC3 T L p).2 = pEnd T L p3 + 1 := by rw [c3e]; exact n3.2.2
                have at97 : I97 115 21 = (pC3 T L p).2 := by rw [x97 h100, n3b, e76.2.2.1]
                refine wp_vi (ci := 10) (c_X10_takesRow (d := d) (p := (pC3 T L p).2) hW hn (by rw [l97]; exact hlen) at97 ⟨by omega, by omega⟩ ⟨by omega, by omega⟩) (t := 59) rfl kX10_163 rfl rfl (by omega) (by first | rfl | assumption) ⟨_, _, rfl⟩ (Nat.le_of_ble_eq_true rfl) ⟨Nat.le_refl _, Nat.le_refl _⟩ (fun r105 I105 R105 c105 => ?_)
                refine wp_canon (fun hI10 => ?_)
                obtain ⟨⟨e105, a105, m105, m105b, w105, w105b, g105, f105⟩, zr105⟩ := c105
                have zr105 := zr105.symm
                subst zr105
                rw [t97, l97] at e105 a105 m105 w105
                have hcm : pRun T L (pC3 T L p).2 6 = pCm T L p := rfl
                rw [hcm] at e105 a105 m105 w105
                have rb : 0 ≤ pCm T L p ∧ pCm T L p ≤ 6 := pRun_b T L (pC3 T L p).2 6
                have z105 : 0 ≤ r105 ∧ r105 ≤ 1 := by rw [e105]; split <;> omega
                have fr105 : mFr I I105 := mFr_trans fr97 ⟨fun b b1 b2 => f105 b b1 (by omega) (by omega), fun j hj => g105 j (by omega)⟩
                refine wp_if_eq (t := 60) (tgt := 120) rfl (by decide) (by first | assumption | exact hI10 _ _ | exact hI9 _ _ | exact hI8 _ _ | exact hI7 _ _ | exact hI6 _ _ | exact hI5 _ _ | exact hI4 _ _ | exact hI3 _ _ | exact hI2 _ _ | exact hI1 _ _ | exact hI0 _ _ | exact zin_and _ _ | (unfold zin; omega) | (unfold zin at *; omega)) (fun h108 => ?_) (fun h108 => ?_)
                · refine wp_iconst (t := 65) rfl ?_
                  refine wp_zreturn (t := 66) rfl rfl (by omega) ?_
                  exact ⟨_, rfl, ⟨(if_neg (fun k => by rw [if_pos (by have := k.2.2.2.2.1; omega)] at e105; omega)).symm, fun q => absurd rfl q, fr105⟩, rfl⟩
                · refine wp_aload_n (t := 61) rfl rfl ?_
                  refine wp_bipush (t := 62) rfl (by decide) ?_
                  refine wp_vi (ci := 10) (c_X10_isSign (d := d) hW hn (by rw [g105 20 (by decide), l97]; exact hlen) (by omega) (by omega)) (t := 63) rfl kX10_159 rfl rfl (by omega) (by first | rfl | assumption) ⟨_, _, rfl⟩ (Nat.le_of_ble_eq_true rfl) ⟨Nat.le_refl _, Nat.le_refl _⟩ (fun r114 I114 R114 c114 => ?_)
                  refine wp_canon (fun hI11 => ?_)
                  obtain ⟨⟨e114, x114, b114, g114, f114⟩, zr114⟩ := c114
                  have zr114 := zr114.symm
                  subst zr114
                  rw [f105 127 (by decide) (by decide) (by decide), g105 20 (by decide), t97, l97, a105] at e114
                  have z114 : 0 ≤ r114 ∧ r114 ≤ 1 := by rw [e114]; split <;> omega
                  have fr114 : mFr I I114 := mFr_trans fr105 ⟨fun b b1 b2 => f114 b b1, fun j hj => g114 j (by omega)⟩
                  have m0 : 0 < pCm T L p := Classical.byContradiction (fun q => by rw [if_neg q] at e105; omega)
                  refine wp_if_ne (t := 64) (tgt := 122) rfl (by decide) (by first | assumption | exact hI11 _ _ | exact hI10 _ _ | exact hI9 _ _ | exact hI8 _ _ | exact hI7 _ _ | exact hI6 _ _ | exact hI5 _ _ | exact hI4 _ _ | exact hI3 _ _ | exact hI2 _ _ | exact hI1 _ _ | exact hI0 _ _ | exact zin_and _ _ | (unfold zin; omega) | (unfold zin at *; omega)) (fun h117 => ?_) (fun h117 => ?_)
                  · refine wp_aload_n (t := 67) rfl rfl ?_
                    refine wp_dup (t := 68) rfl rfl ?_
                    refine wp_getI (t := 69) (ji := 25) rfl fX10_112 rfl rfl (by omega) (by first | rfl | assumption) ?_
                    rw [show I114 115 25 = c by rw [g114 25 (by decide), g105 25 (by decide), g97 25 (by decide), g76 25 (by decide) (by decide), g66 25 (by decide), g45 25 (by decide) (by decide), g35 25 (by decide), g14 25 (by decide) (by decide), hcv]]
                    refine wp_iconst (t := 70) rfl ?_
                    refine wp_iadd (t := 71) rfl ?_
                    refine wp_putI (t := 72) (ji := 25) rfl fX10_112 p10_25 rfl rfl (by omega) (by first | rfl | assumption) (by first | assumption | exact hI11 _ _ | exact hI10 _ _ | exact hI9 _ _ | exact hI8 _ _ | exact hI7 _ _ | exact hI6 _ _ | exact hI5 _ _ | exact hI4 _ _ | exact hI3 _ _ | exact hI2 _ _ | exact hI1 _ _ | exact hI0 _ _ | exact zin_and _ _ | (unfold zin; omega) | (unfold zin at *; omega)) ?_
                    refine wp_canon (fun hI12 => ?_)
                    refine wp_iconst (t := 73) rfl ?_
                    refine wp_zreturn (t := 74) rfl rfl (by omega) ?_
                    have okl : pLet T L ((pC3 T L p).2 + pCm T L p) = 59 := Classical.byContradiction (fun q => by rw [if_neg q] at e114; omega)
                    have ok1 : ¬ (pC1 T L p).1 = -4 := n1.1
                    have ok2 : ¬ (pC2 T L p).1 = -4 := by rw [c2e]; exact n2.1
                    have ok3 : ¬ (pC3 T L p).1 = -4 := by rw [c3e]; exact n3.1
                    refine ⟨_, rfl, ⟨(if_pos ⟨by omega, ok1, ok2, ok3, by omega, okl⟩).symm, fun _ => ⟨?_, by rw [zu_ni (by decide), x114 (by omega), a105]⟩, mFr_u fr114 (by omega)⟩, rfl⟩
                    obtain ⟨⟨q1, q2, q3, q4⟩, q5, q6⟩ := hr
                    have gg : ∀ j : Int, j ≠ 21 → j ≠ 22 → I114 115 j = I 115 j := fun j j1 j2 => by rw [g114 j j1, g105 j j1, g97 j j1, g76 j j1 j2, g66 j j1, g45 j j1 j2, g35 j j1, g14 j j1 j2]
                    have fA : ∀ b : Nat, b ≠ 115 → b < 128 ∨ 132 < b → I114 b = I b := fun b b1 b2 => by rw [f114 b b1, f105 b b1 (by omega) (by omega), f97 b b1, zu_ne (by omega), f76 b b1, f66 b b1, zu_ne (by omega), f45 b b1, f35 b b1, zu_ne (by omega), f14 b b1]
                    have i131 : I97 131 = I 131 := by rw [f97 131 (by decide), zu_ne (by decide), f76 131 (by decide), f66 131 (by decide), zu_ne (by decide), f45 131 (by decide), f35 131 (by decide), zu_ne (by decide), f14 131 (by decide)]
                    have i132 : I97 132 = I 132 := by rw [f97 132 (by decide), zu_ne (by decide), f76 132 (by decide), f66 132 (by decide), zu_ne (by decide), f45 132 (by decide), f35 132 (by decide), zu_ne (by decide), f14 132 (by decide)]
                    have i130 : I76 130 = I 130 := by rw [f76 130 (by decide), f66 130 (by decide), zu_ne (by decide), f45 130 (by decide), f35 130 (by decide), zu_ne (by decide), f14 130 (by decide)]
                    have i129 : I45 129 = I 129 := by rw [f45 129 (by decide), f35 129 (by decide), zu_ne (by decide), f14 129 (by decide)]
                    have i128 : I14 128 = I 128 := f14 128 (by decide)
                    have v128 : ∀ a : Int, I114 128 a = if a = c then (pC1 T L p).1 else I 128 a := fun a => by
                      rw [f114 128 (by decide), f105 128 (by decide) (by decide) (by decide), k97a, k35]
                      by_cases e : a = c
                      · rw [e, zu_eq, if_pos rfl, e14.2.2.2.1]; exact n1.2.1.symm
                      · rw [zu_ni e, if_neg e, i128]
                    have v129 : ∀ a : Int, I114 129 a = if a = c then (pC2 T L p).1 else I 129 a := fun a => by
                      rw [f114 129 (by decide), f105 129 (by decide) (by decide) (by decide), k97b, k66]
                      by_cases e : a = c
                      · rw [e, zu_eq, if_pos rfl, e45.2.2.2.1, c2e]; exact n2.2.1.symm
                      · rw [zu_ni e, if_neg e, i129]
                    have v130 : ∀ a : Int, I114 130 a = if a = c then (pC3 T L p).1 else I 130 a := fun a => by
                      rw [f114 130 (by decide), f105 130 (by decide) (by decide) (by decide), k97]
                      by_cases e : a = c
                      · rw [e, zu_eq, if_pos rfl, e76.2.2.2.1, c3e]; exact n3.2.1.symm
                      · rw [zu_ni e, if_neg e, i130]
                    have i131b : I114 131 = I105 131 := f114 131 (by decide)
                    have i132b : I114 132 = I105 132 := f114 132 (by decide)
                    refine ⟨⟨?_, ?_, ?_, ?_⟩, fun a a0 a1 => ?_, fun b b0 b1 => ?_⟩
                    · rw [zu_ni (by decide), gg 23 (by decide) (by decide)]; exact q1
                    · rw [zu_ni (by decide), gg 24 (by decide) (by decide)]; exact q2
                    · rw [zu_eq, hcn]; rfl
                    · rw [zu_ni (by decide), gg 26 (by decide) (by decide)]; exact q4
                    · have a1 : a < S.1.2.2.1 + 1 := a1
                      rw [zu_ne (b := 128) (by decide), zu_ne (b := 129) (by decide), zu_ne (b := 130) (by decide), zu_ne (b := 131) (by decide), zu_ne (b := 132) (by decide), v128, v129, v130, i131b, i132b]
                      show _ = pu S.2.1 S.1.2.2.1 (pC1 T L p).1 a ∧ _ = pu S.2.2.1 S.1.2.2.1 (pC2 T L p).1 a ∧ _ = pu S.2.2.2.1 S.1.2.2.1 (pC3 T L p).1 a ∧ _ = pu S.2.2.2.2.1 S.1.2.2.1 (pCm T L p) a ∧ ∀ i : Int, 0 ≤ i → i < pu S.2.2.2.2.1 S.1.2.2.1 (pCm T L p) a → I105 132 (6 * a + i) = if a = S.1.2.2.1 then T ((pC3 T L p).2 + i) - 48 else S.2.2.2.2.2.1 a i
                      rw [← hcn]
                      by_cases e : a = c
                      · rw [e, if_pos rfl, if_pos rfl, if_pos rfl, pu_i, pu_i, pu_i, pu_i]
                        exact ⟨rfl, rfl, rfl, m105, fun i i0 i1 => by rw [if_pos rfl]; exact w105 i i0 i1⟩
                      · have g := q5 a a0 (by omega)
                        have g6 := (hS.2.2.2.2.1 a a0 (by omega)).2.2.2.1
                        rw [if_neg e, if_neg e, if_neg e, pu_n e, pu_n e, pu_n e, pu_n e, m105b a e, i131]
                        exact ⟨g.1, g.2.1, g.2.2.1, g.2.2.2.1, fun i i0 i1 => by rw [if_neg e, w105b (6 * a + i) (by omega), i132]; exact g.2.2.2.2 i i0 i1⟩
                    · rw [zu_ne (b := 133) (by decide), zu_ne (b := 134) (by decide), fA 133 (by decide) (by decide), fA 134 (by decide) (by decide)]
                      exact q6 b b0 b1
                  · refine wp_iconst (t := 65) rfl ?_
                    refine wp_zreturn (t := 66) rfl rfl (by omega) ?_
                    exact ⟨_, rfl, ⟨(if_neg (fun k => by rw [if_pos k.2.2.2.2.2] at e114; omega)).symm, fun q => absurd rfl q, fr114⟩, rfl⟩
            · refine wp_iconst (t := 45) rfl ?_
              refine wp_zreturn (t := 46) rfl rfl (by omega) ?_
              exact ⟨_, rfl, ⟨(if_neg (fun k => x76 (by omega) 44 (Or.inl rfl) (pNum_iff.mp k.2.2.2.1))).symm, fun q => absurd rfl q, fr76⟩, rfl⟩
        · refine wp_iconst (t := 28) rfl ?_
          refine wp_zreturn (t := 29) rfl rfl (by omega) ?_
          exact ⟨_, rfl, ⟨(if_neg (fun k => x45 (by omega) 44 (Or.inl rfl) (pNum_iff.mp k.2.2.1))).symm, fun q => absurd rfl q, fr45⟩, rfl⟩
    · refine wp_iconst (t := 11) rfl ?_
      refine wp_zreturn (t := 12) rfl rfl (by omega) ?_
      exact ⟨_, rfl, ⟨(if_neg (fun k => x14 (by omega) 44 (Or.inl rfl) (pNum_iff.mp k.2.1))).symm, fun q => absurd rfl q, fr14⟩, rfl⟩
