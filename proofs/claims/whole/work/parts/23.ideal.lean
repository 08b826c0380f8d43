/-! the ideal load: the search as a plain function, and its contract -/
def ilLoop (rec : (Int → Int) → Int → Int → Int) (ld : Int → Int) (w li most : Int) : Nat → Int → Int
  | 0, le => le
  | k + 1, le =>
    if ld (w - (k + 1)) = 0 then rec (fun x => if x = w - (k + 1) then ld x + li else ld x) (max most (ld (w - (k + 1)) + li)) le
    else ilLoop rec ld w li most k (rec (fun x => if x = w - (k + 1) then ld x + li else ld x) (max most (ld (w - (k + 1)) + li)) le)
/-- the least load with the last f chains laid in any way, or known -/
def ilTry (len : Int → Int) (n w : Int) : Nat → (Int → Int) → Int → Int → Int
  | 0, _, most, known => if known ≤ most then known else most
  | f + 1, ld, most, known => if known ≤ most then known else ilLoop (fun ld' most' known' => ilTry len n w f ld' most' known') ld w (len (n - (f + 1))) most w.toNat known
theorem ilLoop_succ {rec : (Int → Int) → Int → Int → Int} {ld : Int → Int} {w li most le l : Int} {k : Nat} (hl : w - ((k : Int) + 1) = l) : ilLoop rec ld w li most (k + 1) le = if ld l = 0 then rec (fun x => if x = l then ld x + li else ld x) (max most (ld l + li)) le else ilLoop rec ld w li most k (rec (fun x => if x = l then ld x + li else ld x) (max most (ld l + li)) le) := by
  subst hl
  rfl
theorem zu_back {J : zMem} {a : Nat} {i v : Int} : zu (zu J a i (J a i + v)) a i (J a i + v - v) = J := by
  funext b j
  unfold zu
  by_cases h : b = a ∧ j = i
  · rw [if_pos h, h.1, h.2]
    omega
  · rw [if_neg h, if_neg h]
theorem zu_fn {J : zMem} {a : Nat} {i v : Int} : zu J a i (J a i + v) a = fun x => if x = i then J a x + v else J a x := by
  funext x
  unfold zu
  by_cases h : x = i
  · rw [if_pos ⟨rfl, h⟩, if_pos h, h]
  · rw [if_neg (fun q => h q.2), if_neg h]
set_option maxHeartbeats 4000000 in
set_option maxRecDepth 100000 in
theorem c_X2_leastLoad {G : zG} {n : Nat} {R : zRef} {c w : Int} (hW : zWir n R) (hn : 115 ≤ n) (hc : 0 ≤ c ∧ c < 6) (hw : 1 ≤ w ∧ w ≤ 8) : ∀ (f : Nat) (d : Nat) (I : zMem) (i most known : Int), zLe I c → i + (f : Int) = I 38 c → 0 ≤ i → (∀ x : Int, 0 ≤ x → x < w → 0 ≤ I 62 x ∧ I 62 x ≤ 9 * i) → (0 ≤ most ∧ most ≤ 9 * i) → (0 ≤ known ∧ known ≤ 100) → MT G mX2_leastLoad (d + f + 1) 0 0 [zR 34, zI c, zI w, zI i, zI most, zI known] n I R (zP1 (fun r I' R' => r = ilTry (I (40 + c.toNat)) (I 38 c) w f (I 62) most known ∧ (0 ≤ r ∧ r ≤ 100) ∧ I' = I ∧ R' = R)) := by
  have hrow : R 39 c = some (40 + c.toNat) := zrowR (m := 6) hW (by omega) (by decide) hc.1 (by omega)
  have hlrow : zlay (40 + c.toNat) = (20, 6) := zrowL (m := 6) (by decide) (by omega) hc.1
  intro f
  induction f with
  | zero =>
    intro d I i most known hle hif hi0 hld hmo hkn
    refine MT.of (by decide +kernel) tX2_leastLoad_ok (Nat.le_of_ble_eq_true rfl) (fun hI0 => ?_)
    have hch := hle.1
    refine wp_ls (ls' := [some (zR 34), some (zI c), some (zI w), some (zI i), some (zI most), some (zI known), none, none, none, none]) rfl ?_
    refine wp_iload (t := 0) rfl rfl ?_
    refine wp_iload (t := 1) rfl rfl ?_
    refine wp_icmp_lt (t := 2) (tgt := 10) rfl (by decide) (by first | assumption | exact hI0 _ _ | exact zin_and _ _ | (unfold zin; omega) | (unfold zin at *; omega)) (by first | assumption | exact hI0 _ _ | exact zin_and _ _ | (unfold zin; omega) | (unfold zin at *; omega)) (fun h4 => ?_) (fun h4 => ?_)
    · refine wp_iload_n (t := 5) rfl rfl ?_
      refine wp_aload_n (t := 6) rfl rfl ?_
      refine wp_getR (t := 7) (ji := 7) rfl fX2_21 rfl rfl (by omega) (by first | rfl | assumption) (by first | exact hW _ _ _ (by omega) rfl | assumption) ?_
      refine wp_iload_n (t := 8) rfl rfl ?_
      refine wp_iaload (t := 9) rfl (by omega) (by first | rfl | assumption) (by omega) (by omega) (by omega) ?_
      refine wp_icmp_ge (t := 10) (tgt := 26) rfl (by decide) (by first | assumption | exact hI0 _ _ | exact zin_and _ _ | (unfold zin; omega) | (unfold zin at *; omega)) (by first | assumption | exact hI0 _ _ | exact zin_and _ _ | (unfold zin; omega) | (unfold zin at *; omega)) (fun h17 => ?_) (fun h17 => ?_)
      · refine wp_iload (t := 14) rfl rfl ?_
        refine wp_ireturn (t := 15) rfl rfl ?_
        exact ⟨_, rfl, (if_neg (show ¬ known ≤ most by omega)).symm, by omega, rfl, rfl⟩
      · exact absurd h17 (by omega)
    · refine wp_iload (t := 3) rfl rfl ?_
      refine wp_ireturn (t := 4) rfl rfl ?_
      exact ⟨_, rfl, (if_pos (show known ≤ most by omega)).symm, hkn, rfl, rfl⟩
  | succ f ihf =>
    intro d I i most known hle hif hi0 hld hmo hkn
    rw [show d + (f + 1) + 1 = d + f + 2 by omega]
    refine MT.of (by decide +kernel) tX2_leastLoad_ok (Nat.le_of_ble_eq_true rfl) (fun hI0 => ?_)
    obtain ⟨hch, hlen⟩ := id hle
    have hli := hlen i hi0 (by omega)
    have loop : ∀ (k : Nat) (l le : Int) (x9 : Option zV), 0 ≤ l → l + (k : Int) = w → (0 ≤ le ∧ le ≤ 100) → WP G mX2_leastLoad (d + f + 2) 0 0 0 0 46 [some (zR 34), some (zI c), some (zI w), some (zI i), some (zI most), some (zI known), some (zI (I (40 + c.toNat) i)), some (zI le), some (zI l), x9] [] n I R (zP1 (fun r I' R' => r = ilLoop (fun ld' most' known' => ilTry (I (40 + c.toNat)) (I 38 c) w f ld' most' known') (I 62) w (I (40 + c.toNat) i) most k le ∧ (0 ≤ r ∧ r ≤ 100) ∧ I' = I ∧ R' = R)) := by
      intro k
      induction k with
      | zero =>
        intro l le x9 l0 hk hb
        refine wp_iload (t := 27) rfl rfl ?_
        refine wp_iload_n (t := 28) rfl rfl ?_
        refine wp_icmp_ge (t := 29) (tgt := 124) rfl (by decide) (by first | assumption | exact hI0 _ _ | exact zin_and _ _ | (unfold zin; omega) | (unfold zin at *; omega)) (by first | assumption | exact hI0 _ _ | exact zin_and _ _ | (unfold zin; omega) | (unfold zin at *; omega)) (fun h49 => ?_) (fun h49 => ?_)
        · refine wp_iload (t := 71) rfl rfl ?_
          refine wp_ireturn (t := 72) rfl rfl ?_
          exact ⟨_, rfl, rfl, hb, rfl, rfl⟩
        · exact absurd h49 (by omega)
      | succ k ihk =>
        intro l le x9 l0 hk hb
        have hll := hld l l0 (by omega)
        rw [ilLoop_succ (l := l) (by omega)]
        refine wp_iload (t := 27) rfl rfl ?_
        refine wp_iload_n (t := 28) rfl rfl ?_
        refine wp_icmp_ge (t := 29) (tgt := 124) rfl (by decide) (by first | assumption | exact hI0 _ _ | exact zin_and _ _ | (unfold zin; omega) | (unfold zin at *; omega)) (by first | assumption | exact hI0 _ _ | exact zin_and _ _ | (unfold zin; omega) | (unfold zin at *; omega)) (fun h49 => ?_) (fun h49 => ?_)
        · exact absurd h49 (by omega)
        · refine wp_aload_n (t := 30) rfl rfl ?_
          refine wp_getR (t := 31) (ji := 13) rfl fX2_41 rfl rfl (by omega) (by first | rfl | assumption) (by first | exact hW _ _ _ (by omega) rfl | assumption) ?_
          refine wp_iload (t := 32) rfl rfl ?_
          refine wp_dup2 (t := 33) rfl rfl rfl ?_
          refine wp_iaload (t := 34) rfl (by omega) (by first | rfl | assumption) (by omega) (by omega) (by omega) ?_
          refine wp_iload (t := 35) rfl rfl ?_
          refine wp_iadd (t := 36) rfl ?_
          refine wp_iastore (t := 37) rfl (by omega) (by first | rfl | assumption) (by omega) (by omega) (by omega) (by first | assumption | exact hI0 _ _ | exact zin_and _ _ | (unfold zin; omega) | (unfold zin at *; omega)) ?_
          refine wp_canon (fun hI1 => ?_)
          refine wp_iload (t := 38) rfl rfl ?_
          refine wp_aload_n (t := 39) rfl rfl ?_
          refine wp_getR (t := 40) (ji := 13) rfl fX2_41 rfl rfl (by omega) (by first | rfl | assumption) (by first | exact hW _ _ _ (by omega) rfl | assumption) ?_
          refine wp_iload (t := 41) rfl rfl ?_
          refine wp_iaload (t := 42) rfl (by omega) (by first | rfl | assumption) (by omega) (by omega) (by omega) ?_
          rw [zu_eq]
          refine wp_max (t := 43) rfl (wsL_law_r12_l (List.mem_of_getElem? (i := 7) rfl)) (by first | assumption | exact hI1 _ _ | exact hI0 _ _ | exact zin_and _ _ | (unfold zin; omega) | (unfold zin at *; omega)) (by first | assumption | exact hI1 _ _ | exact hI0 _ _ | exact zin_and _ _ | (unfold zin; omega) | (unfold zin at *; omega)) (Nat.le_of_ble_eq_true rfl) ⟨Nat.le_refl _, Nat.le_refl _⟩ ?_
          refine wp_istore (t := 44) rfl (by decide) rfl ?_
          refine wp_aload_n (t := 45) rfl rfl ?_
          refine wp_iload_n (t := 46) rfl rfl ?_
          refine wp_iload_n (t := 47) rfl rfl ?_
          refine wp_iload_n (t := 48) rfl rfl ?_
          refine wp_iconst (t := 49) rfl ?_
          refine wp_iadd (t := 50) rfl ?_
          refine wp_iload (t := 51) rfl rfl ?_
          refine wp_iload (t := 52) rfl rfl ?_
          refine wp_si (ihf d (zu I 62 l (I 62 l + I (40 + c.toNat) i)) (i + 1) (max most (I 62 l + I (40 + c.toNat) i)) le (by unfold zLe; rw [zu_ne (by decide), zu_ne (by omega)]; exact hle) (by rw [zu_na (by decide)]; omega) (by omega) (fun x x0 x1 => by rw [zu_fn]; dsimp only; have := hld x x0 x1; split <;> rename_i e <;> (try rw [e] at this) <;> (try rw [e]) <;> omega) (by omega) hb) (t := 53) rfl kX2_81 rfl rfl (Nat.le_of_ble_eq_true rfl) ⟨Nat.le_refl _, Nat.le_refl _⟩ (fun r88 I88 R88 c88 => ?_)
          refine wp_canon (fun hI2 => ?_)
          obtain ⟨e88, b88, rfl, rfl⟩ := c88
          rw [zu_ne (b := 40 + c.toNat) (by omega), zu_na (b := 38) (by decide), zu_fn] at e88
          subst e88
          refine wp_istore (t := 54) rfl (by decide) rfl ?_
          refine wp_aload_n (t := 55) rfl rfl ?_
          refine wp_getR (t := 56) (ji := 13) rfl fX2_41 rfl rfl (by omega) (by first | rfl | assumption) (by first | exact hW _ _ _ (by omega) rfl | assumption) ?_
          refine wp_iload (t := 57) rfl rfl ?_
          refine wp_dup2 (t := 58) rfl rfl rfl ?_
          refine wp_iaload (t := 59) rfl (by omega) (by first | rfl | assumption) (by omega) (by omega) (by omega) ?_
          refine wp_iload (t := 60) rfl rfl ?_
          rw [zu_eq]
          refine wp_isub (t := 61) rfl ?_
          refine wp_iastore (t := 62) rfl (by omega) (by first | rfl | assumption) (by omega) (by omega) (by omega) (by unfold zin; omega) ?_
          refine wp_canon (fun hI3 => ?_)
          refine wp_aload_n (t := 63) rfl rfl ?_
          refine wp_getR (t := 64) (ji := 13) rfl fX2_41 rfl rfl (by omega) (by first | rfl | assumption) (by first | exact hW _ _ _ (by omega) rfl | assumption) ?_
          refine wp_iload (t := 65) rfl rfl ?_
          refine wp_iaload (t := 66) rfl (by omega) (by first | rfl | assumption) (by omega) (by omega) (by omega) ?_
          rw [zu_back]
          refine wp_if_ne (t := 67) (tgt := 118) rfl (by decide) (by first | assumption | exact hI3 _ _ | exact hI2 _ _ | exact hI1 _ _ | exact hI0 _ _ | exact zin_and _ _ | (unfold zin; omega) | (unfold zin at *; omega)) (fun h112 => ?_) (fun h112 => ?_)
          · rw [if_neg h112]
            refine wp_iinc (t := 69) rfl rfl (by decide) rfl ?_
            refine wp_goto (t := 70) (tgt := 46) rfl (by decide) ?_
            exact ihk (l + 1) _ _ (by omega) (by omega) b88
          · refine wp_goto (t := 68) (tgt := 124) rfl (by decide) ?_
            refine wp_iload (t := 71) rfl rfl ?_
            refine wp_ireturn (t := 72) rfl rfl ?_
            rw [if_pos h112]
            exact ⟨_, rfl, rfl, b88, rfl, rfl⟩
    refine wp_ls (ls' := [some (zR 34), some (zI c), some (zI w), some (zI i), some (zI most), some (zI known), none, none, none, none]) rfl ?_
    refine wp_iload (t := 0) rfl rfl ?_
    refine wp_iload (t := 1) rfl rfl ?_
    refine wp_icmp_lt (t := 2) (tgt := 10) rfl (by decide) (by first | assumption | exact hI0 _ _ | exact zin_and _ _ | (unfold zin; omega) | (unfold zin at *; omega)) (by first | assumption | exact hI0 _ _ | exact zin_and _ _ | (unfold zin; omega) | (unfold zin at *; omega)) (fun h4 => ?_) (fun h4 => ?_)
    · refine wp_iload_n (t := 5) rfl rfl ?_
      refine wp_aload_n (t := 6) rfl rfl ?_
      refine wp_getR (t := 7) (ji := 7) rfl fX2_21 rfl rfl (by omega) (by first | rfl | assumption) (by first | exact hW _ _ _ (by omega) rfl | assumption) ?_
      refine wp_iload_n (t := 8) rfl rfl ?_
      refine wp_iaload (t := 9) rfl (by omega) (by first | rfl | assumption) (by omega) (by omega) (by omega) ?_
      refine wp_icmp_ge (t := 10) (tgt := 26) rfl (by decide) (by first | assumption | exact hI0 _ _ | exact zin_and _ _ | (unfold zin; omega) | (unfold zin at *; omega)) (by first | assumption | exact hI0 _ _ | exact zin_and _ _ | (unfold zin; omega) | (unfold zin at *; omega)) (fun h17 => ?_) (fun h17 => ?_)
      · first | exact absurd h17 (by omega) | exact absurd h23 (by omega)
      · refine wp_iload_n (t := 11) rfl rfl ?_
        refine wp_bipush (t := 12) rfl (by decide) ?_
        refine wp_icmp_lt (t := 13) (tgt := 29) rfl (by decide) (by first | assumption | exact hI0 _ _ | exact zin_and _ _ | (unfold zin; omega) | (unfold zin at *; omega)) (by first | assumption | exact hI0 _ _ | exact zin_and _ _ | (unfold zin; omega) | (unfold zin at *; omega)) (fun h23 => ?_) (fun h23 => ?_)
        · refine wp_aload_n (t := 16) rfl rfl ?_
          refine wp_getR (t := 17) (ji := 8) rfl fX2_26 rfl rfl (by omega) (by first | rfl | assumption) (by first | exact hW _ _ _ (by omega) rfl | assumption) ?_
          refine wp_iload_n (t := 18) rfl rfl ?_
          refine wp_aaload (t := 19) rfl (by omega) (by first | rfl | assumption) (by omega) (by omega) (by omega) (by first | exact hW _ _ _ (by omega) rfl | assumption) ?_
          refine wp_iload_n (t := 20) rfl rfl ?_
          refine wp_iaload (t := 21) rfl (by omega) (by first | rfl | assumption) (by omega) (by omega) (by omega) ?_
          refine wp_istore (t := 22) rfl (by decide) rfl ?_
          refine wp_iload (t := 23) rfl rfl ?_
          refine wp_istore (t := 24) rfl (by decide) rfl ?_
          refine wp_iconst (t := 25) rfl ?_
          refine wp_istore (t := 26) rfl (by decide) rfl ?_
          have e9 : ilTry (I (40 + c.toNat)) (I 38 c) w (f + 1) (I 62) most known = ilLoop (fun ld' most' known' => ilTry (I (40 + c.toNat)) (I 38 c) w f ld' most' known') (I 62) w (I (40 + c.toNat) i) most w.toNat known := by
            show (if known ≤ most then known else ilLoop _ (I 62) w (I (40 + c.toNat) (I 38 c - ((f : Int) + 1))) most w.toNat known) = _
            rw [if_neg (show ¬ known ≤ most by omega), show I 38 c - ((f : Int) + 1) = i by omega]
          rw [e9]
          exact loop _ 0 known _ (by omega) (by omega) hkn
        · first | exact absurd h17 (by omega) | exact absurd h23 (by omega)
    · refine wp_iload (t := 3) rfl rfl ?_
      refine wp_ireturn (t := 4) rfl rfl ?_
      exact ⟨_, rfl, (if_pos (show known ≤ most by omega)).symm, hkn, rfl, rfl⟩
set_option maxHeartbeats 4000000 in
set_option maxRecDepth 100000 in
theorem c_X2_idealLoad {G : zG} {d n : Nat} {I : zMem} {R : zRef} {c w : Int} (hW : zWir n R) (hn : 115 ≤ n) (hc : 0 ≤ c ∧ c < 6) (hw : 1 ≤ w ∧ w ≤ 8) (hle : zLe I c) (hlo : 0 ≤ I (49 + c.toNat) w ∧ I (49 + c.toNat) w ≤ 100) : MT G mX2_idealLoad (d + 8) 0 0 [zR 34, zI c, zI w] n I R (zP1 (fun r I' R' => ((∀ b : Nat, b ≠ 62 → I' b = I b) ∧ ∃ ld : Int → Int, (∀ x : Int, 0 ≤ x → x < 8 → ld x = 0) ∧ r = ilTry (I (40 + c.toNat)) (I 38 c) w (I 38 c).toNat ld 0 (I (49 + c.toNat) w)) ∧ R' = R)) := by
  refine MT.of (by decide +kernel) tX2_idealLoad_ok (Nat.le_of_ble_eq_true rfl) (fun hI0 => ?_)
  have hrow2 : R 48 c = some (49 + c.toNat) := zrowR (m := 6) hW (by omega) (by decide) hc.1 (by omega)
  have hlrow2 : zlay (49 + c.toNat) = (20, 9) := zrowL (m := 6) (by decide) (by omega) hc.1
  have hch := hle.1
  refine wp_ls (ls' := [some (zR 34), some (zI c), some (zI w)]) rfl ?_
  refine wp_aload_n (t := 0) rfl rfl ?_
  refine wp_vv (ci := 2) (c_X2_clearLoads (d := d + 7) hW hn) (t := 1) rfl kX2_68 rfl rfl (by omega) (by first | rfl | assumption) ⟨_, _, rfl⟩ (Nat.le_of_ble_eq_true rfl) ⟨Nat.le_refl _, Nat.le_refl _⟩ (fun I1 R1 c1 => ?_)
  refine wp_canon (fun hI1 => ?_)
  obtain ⟨⟨a1, a2⟩, rfl⟩ := c1
  refine wp_aload_n (t := 2) rfl rfl ?_
  refine wp_iload_n (t := 3) rfl rfl ?_
  refine wp_iload_n (t := 4) rfl rfl ?_
  refine wp_iconst (t := 5) rfl ?_
  refine wp_iconst (t := 6) rfl ?_
  refine wp_aload_n (t := 7) rfl rfl ?_
  refine wp_getR (t := 8) (ji := 11) rfl fX2_35 rfl rfl (by omega) (by first | rfl | assumption) (by first | exact hW _ _ _ (by omega) rfl | assumption) ?_
  refine wp_iload_n (t := 9) rfl rfl ?_
  refine wp_aaload (t := 10) rfl (by omega) (by first | rfl | assumption) (by omega) (by omega) (by omega) (by first | exact hW _ _ _ (by omega) rfl | assumption) ?_
  refine wp_iload_n (t := 11) rfl rfl ?_
  refine wp_iaload (t := 12) rfl (by omega) (by first | rfl | assumption) (by omega) (by omega) (by omega) ?_
  rw [a1 (49 + c.toNat) (by omega)]
  have hll := c_X2_leastLoad (G := G) hW hn hc hw (I 38 c).toNat (d + (6 - (I 38 c).toNat)) I1 0 0 (I (49 + c.toNat) w) (by unfold zLe; rw [a1 38 (by decide), a1 (40 + c.toNat) (by omega)]; exact hle) (by rw [a1 38 (by decide)]; omega) (by omega) (fun x x0 x1 => by rw [a2 x x0 (by omega)]; omega) (by omega) hlo
  rw [show d + (6 - (I 38 c).toNat) + (I 38 c).toNat + 1 = d + 7 by omega] at hll
  refine wp_si (hll) (t := 13) rfl kX2_81 rfl rfl (Nat.le_of_ble_eq_true rfl) ⟨Nat.le_refl _, Nat.le_refl _⟩ (fun r17 I17 R17 c17 => ?_)
  refine wp_canon (fun hI2 => ?_)
  obtain ⟨e17, b17, rfl, rfl⟩ := c17
  rw [a1 38 (by decide), a1 (40 + c.toNat) (by omega)] at e17
  refine wp_ireturn (t := 14) rfl rfl ?_
  exact ⟨_, rfl, ⟨a1, _, a2, e17⟩, rfl⟩
