/-! the reference: the ideal load -/
theorem iE_congr {len : Int → Int} {n wd : Int} (hw : 1 ≤ wd) : ∀ (f : Nat) (ld ld' : Int → Int) (code m : Int), (∀ x : Int, 0 ≤ x → x < wd → ld x = ld' x) → iE len n wd f ld code m = iE len n wd f ld' code m := by
  intro f
  induction f with
  | zero => exact fun _ _ _ _ _ => rfl
  | succ f ih =>
    intro ld ld' code m h
    have m0 := Int.emod_nonneg code (show wd ≠ 0 by omega)
    have m1 := Int.emod_lt_of_pos code (show 0 < wd by omega)
    show iE len n wd f (iAdd ld (code % wd) (len (n - (f + 1)))) (code / wd) (max m (ld (code % wd) + len (n - (f + 1)))) = iE len n wd f (iAdd ld' (code % wd) (len (n - (f + 1)))) (code / wd) (max m (ld' (code % wd) + len (n - (f + 1))))
    rw [h _ m0 m1]
    exact ih _ _ _ _ (fun x x0 x1 => by unfold iAdd; rw [h x x0 x1])
theorem zpow_b : ∀ a : Fin 7, ∀ k : Fin 7, ((a : Nat) : Int) ^ (k : Nat) ≤ 46656 := by decide +kernel
def mWd (I : zMem) (c w : Int) : Int := if w < I 118 c then w else I 118 c
def mIdP (I : zMem) (c w r : Int) : Prop := r = iMin (mLn I c) (I 118 c) (mWd I c w) (I 118 c).toNat (fun _ => 0) (mWd I c w ^ (I 118 c).toNat).toNat
set_option maxHeartbeats 4000000 in
set_option maxRecDepth 100000 in
theorem c_X10_idealOf {G : zG} {d n : Nat} {I : zMem} {R : zRef} {c w : Int} (hW : zWir n R) (hn : 143 ≤ n) (hc : 0 ≤ c ∧ c < 6) (hw : 1 ≤ w ∧ w ≤ 8) (hwc : mWc I c) : MT G mX10_idealOf d 0 0 [zR 115, zI c, zI w] n I R (zP1 (fun r I' R' => (mIdP I c w r ∧ ∀ b : Nat, b ≠ 135 → I' b = I b) ∧ R' = R)) := by
  refine MT.of (by decide +kernel) tX10_idealOf_ok (Nat.le_of_ble_eq_true rfl) (fun hI0 => ?_)
  obtain ⟨hcm, hle⟩ := hwc
  unfold mIdP
  generalize hwd : mWd I c w = wd at *
  have hwd1 : 1 ≤ wd ∧ wd ≤ 6 ∧ wd ≤ 8 := by
    rw [← hwd]
    unfold mWd
    split <;> omega
  have hpb : ∀ k : Nat, k ≤ 6 → 1 ≤ wd ^ k ∧ wd ^ k ≤ 46656 := fun k hk => by
    obtain ⟨a, ha⟩ := zfinI (m := 7) (x := wd) (by omega) (by omega)
    refine ⟨?_, ?_⟩
    · have : 0 < wd ^ k := Int.pow_pos (by omega)
      omega
    · rw [ha]
      exact zpow_b a ⟨k, by omega⟩
  generalize hN : I 118 c = N at *
  -- one code
  have codes : ∀ (m : Nat) (code best : Int) (J : zMem) (x8 x9 x10 x11 : Option zV), 0 ≤ code → code ≤ wd ^ N.toNat → (wd ^ N.toNat - code).toNat = m → best = iMin (mLn I c) N wd N.toNat (fun _ => 0) code.toNat → (0 ≤ best ∧ best ≤ 100000) → (∀ b : Nat, b ≠ 135 → J b = I b) →
      WP G mX10_idealOf d 0 0 0 0 51 [some (zR 115), some (zI c), some (zI w), some (zI N), some (zI wd), some (zI (wd ^ N.toNat)), some (zI best), some (zI code), x8, x9, x10, x11] [] n J R (zP1 (fun r I' R' => (r = iMin (mLn I c) N wd N.toNat (fun _ => 0) (wd ^ N.toNat).toNat ∧ ∀ b : Nat, b ≠ 135 → I' b = I b) ∧ R' = R)) := by
    have hpN := hpb N.toNat (by omega)
    intro m
    induction m with
    | zero =>
      intro code best J x8 x9 x10 x11 c0 c1 cm hb hbb hf
      refine wp_iload (t := 29) rfl rfl ?_
      refine wp_iload (t := 30) rfl rfl ?_
      refine wp_icmp_ge (t := 31) (tgt := 188) rfl (by decide) (by first | assumption | exact hI0 _ _ | exact zin_and _ _ | (unfold zin; omega) | (unfold zin at *; omega)) (by first | assumption | exact hI0 _ _ | exact zin_and _ _ | (unfold zin; omega) | (unfold zin at *; omega)) (fun h55 => ?_) (fun h55 => ?_)
      · refine wp_iload (t := 100) rfl rfl ?_
        refine wp_ireturn (t := 101) rfl rfl ?_
        exact ⟨_, rfl, ⟨by rw [hb, show code = wd ^ N.toNat by omega], hf⟩, rfl⟩
      · exact absurd h55 (by omega)
    | succ m ih =>
      intro code best J x8 x9 x10 x11 c0 c1 cm hb hbb hf
      have nx : iMin (mLn I c) N wd N.toNat (fun _ => 0) (code + 1).toNat = if iE (mLn I c) N wd N.toNat (fun _ => 0) code 0 < best then iE (mLn I c) N wd N.toNat (fun _ => 0) code 0 else best := by
        rw [show (code + 1).toNat = code.toNat + 1 by omega, hb]
        have e : ((code.toNat : Nat) : Int) = code := Int.toNat_of_nonneg c0
        show (if iE (mLn I c) N wd N.toNat (fun _ => 0) ((code.toNat : Nat) : Int) 0 < iMin (mLn I c) N wd N.toNat (fun _ => 0) code.toNat then iE (mLn I c) N wd N.toNat (fun _ => 0) ((code.toNat : Nat) : Int) 0 else iMin (mLn I c) N wd N.toNat (fun _ => 0) code.toNat) = _
        rw [e]
      -- the digits
      have digits : ∀ (f : Nat) (k left load : Int) (J : zMem) (x11 : Option zV), 0 ≤ k → k + f = N → 0 ≤ left → left ≤ 46656 → (0 ≤ load ∧ load ≤ 9 * k) → (∀ x : Int, 0 ≤ x → x < wd → 0 ≤ J 135 x ∧ J 135 x ≤ 9 * k) → iE (mLn I c) N wd f (J 135) left load = iE (mLn I c) N wd N.toNat (fun _ => 0) code 0 → (∀ b : Nat, b ≠ 135 → J b = I b) →
          WP G mX10_idealOf d 0 0 0 0 92 [some (zR 115), some (zI c), some (zI w), some (zI N), some (zI wd), some (zI (wd ^ N.toNat)), some (zI best), some (zI code), some (zI left), some (zI load), some (zI k), x11] [] n J R (zP1 (fun r I' R' => (r = iMin (mLn I c) N wd N.toNat (fun _ => 0) (wd ^ N.toNat).toNat ∧ ∀ b : Nat, b ≠ 135 → I' b = I b) ∧ R' = R)) := by
        intro f
        induction f with
        | zero =>
          intro k left load J x11 k0 kf l0 l1 hld hJ he hf
          have he : load = iE (mLn I c) N wd N.toNat (fun _ => 0) code 0 := he
          rw [← he] at nx
          refine wp_iload (t := 50) rfl rfl ?_
          refine wp_iload_n (t := 51) rfl rfl ?_
          refine wp_icmp_ge (t := 52) (tgt := 166) rfl (by decide) (by first | assumption | exact hI0 _ _ | exact zin_and _ _ | (unfold zin; omega) | (unfold zin at *; omega)) (by first | assumption | exact hI0 _ _ | exact zin_and _ _ | (unfold zin; omega) | (unfold zin at *; omega)) (fun h95 => ?_) (fun h95 => ?_)
          · refine wp_iload (t := 91) rfl rfl ?_
            refine wp_iload (t := 92) rfl rfl ?_
            refine wp_icmp_ge (t := 93) (tgt := 178) rfl (by decide) (by first | assumption | exact hI0 _ _ | exact zin_and _ _ | (unfold zin; omega) | (unfold zin at *; omega)) (by first | assumption | exact hI0 _ _ | exact zin_and _ _ | (unfold zin; omega) | (unfold zin at *; omega)) (fun h170 => ?_) (fun h170 => ?_)
            · refine wp_iload (t := 96) rfl rfl ?_
              refine wp_istore (t := 97) rfl (by decide) rfl ?_
              refine wp_iinc (t := 98) rfl rfl (by decide) rfl ?_
              refine wp_goto (t := 99) (tgt := 51) rfl (by decide) ?_
              exact ih (code + 1) best J _ _ _ _ (by omega) (by omega) (by omega) (by rw [nx, if_neg (by omega)]) hbb hf
            · refine wp_iload (t := 94) rfl rfl ?_
              refine wp_goto (t := 95) (tgt := 180) rfl (by decide) ?_
              refine wp_istore (t := 97) rfl (by decide) rfl ?_
              refine wp_iinc (t := 98) rfl rfl (by decide) rfl ?_
              refine wp_goto (t := 99) (tgt := 51) rfl (by decide) ?_
              exact ih (code + 1) load J _ _ _ _ (by omega) (by omega) (by omega) (by rw [nx, if_pos (by omega)]) (by omega) hf
          · exact absurd h95 (by omega)
        | succ f ihf =>
          intro k left load J x11 k0 kf l0 l1 hld hJ he hf
          have m0 := Int.emod_nonneg left (show wd ≠ 0 by omega)
          have m1 := Int.emod_lt_of_pos left (show 0 < wd by omega)
          have tm : left.tmod wd = left % wd := Int.tmod_eq_emod_of_nonneg l0
          have td : left.tdiv wd = left / wd := Int.tdiv_eq_ediv_of_nonneg l0
          have d0 : 0 ≤ left / wd := Int.ediv_nonneg l0 (by omega)
          have d1 : left / wd ≤ left := Int.ediv_le_self _ l0
          have hJl := hJ _ m0 m1
          have hlk := hle k k0 (by omega)
          have e119 : J 119 = I 119 := hf 119 (by decide)
          have he : iE (mLn I c) N wd f (iAdd (J 135) (left % wd) (mLn I c (N - (f + 1)))) (left / wd) (max load (J 135 (left % wd) + mLn I c (N - (f + 1)))) = iE (mLn I c) N wd N.toNat (fun _ => 0) code 0 := he
          have ek : N - ((f : Int) + 1) = k := by omega
          have em : mLn I c k = I 119 (6 * c + k) := rfl
          rw [ek, em] at he
          refine wp_canon (fun hI0 => ?_)
          refine wp_iload (t := 50) rfl rfl ?_
          refine wp_iload_n (t := 51) rfl rfl ?_
          refine wp_icmp_ge (t := 52) (tgt := 166) rfl (by decide) (by first | assumption | exact hI0 _ _ | exact zin_and _ _ | (unfold zin; omega) | (unfold zin at *; omega)) (by first | assumption | exact hI0 _ _ | exact zin_and _ _ | (unfold zin; omega) | (unfold zin at *; omega)) (fun h95 => ?_) (fun h95 => ?_)
          · exact absurd h95 (by omega)
          · refine wp_iload (t := 53) rfl rfl ?_
            refine wp_iload (t := 54) rfl rfl ?_
            refine wp_irem (t := 55) rfl (by first | assumption | exact hI0 _ _ | exact zin_and _ _ | (unfold zin; omega) | (unfold zin at *; omega)) (by first | assumption | exact hI0 _ _ | exact zin_and _ _ | (unfold zin; omega) | (unfold zin at *; omega)) (by omega) ?_
            rw [tm]
            refine wp_istore (t := 56) rfl (by decide) rfl ?_
            refine wp_aload_n (t := 57) rfl rfl ?_
            refine wp_getR (t := 58) (ji := 34) rfl fX10_67 rfl rfl (by omega) (by first | rfl | assumption) (by first | exact hW _ _ _ (by omega) rfl | assumption) ?_
            refine wp_iload (t := 59) rfl rfl ?_
            refine wp_dup2 (t := 60) rfl rfl rfl ?_
            refine wp_iaload (t := 61) rfl (by omega) (by first | rfl | assumption) (by omega) (by omega) (by omega) ?_
            refine wp_aload_n (t := 62) rfl rfl ?_
            refine wp_getR (t := 63) (ji := 7) rfl fX10_19 rfl rfl (by omega) (by first | rfl | assumption) (by first | exact hW _ _ _ (by omega) rfl | assumption) ?_
            refine wp_bipush (t := 64) rfl (by decide) ?_
            refine wp_iload_n (t := 65) rfl rfl ?_
            refine wp_imul (t := 66) rfl ?_
            refine wp_iload (t := 67) rfl rfl ?_
            refine wp_iadd (t := 68) rfl ?_
            refine wp_iaload (t := 69) rfl (by omega) (by first | rfl | assumption) (by omega) (by omega) (by omega) ?_
            rw [e119]
            refine wp_iadd (t := 70) rfl ?_
            refine wp_iastore (t := 71) rfl (by omega) (by first | rfl | assumption) (by omega) (by omega) (by omega) (by first | assumption | exact hI0 _ _ | exact zin_and _ _ | (unfold zin; omega) | (unfold zin at *; omega)) ?_
            refine wp_canon (fun hI1 => ?_)
            refine wp_aload_n (t := 72) rfl rfl ?_
            refine wp_getR (t := 73) (ji := 34) rfl fX10_67 rfl rfl (by omega) (by first | rfl | assumption) (by first | exact hW _ _ _ (by omega) rfl | assumption) ?_
            refine wp_iload (t := 74) rfl rfl ?_
            refine wp_iaload (t := 75) rfl (by omega) (by first | rfl | assumption) (by omega) (by omega) (by omega) ?_
            rw [zu_eq]
            refine wp_iload (t := 76) rfl rfl ?_
            refine wp_icmp_le (t := 77) (tgt := 149) rfl (by decide) (by first | assumption | exact hI1 _ _ | exact hI0 _ _ | exact zin_and _ _ | (unfold zin; omega) | (unfold zin at *; omega)) (by first | assumption | exact hI1 _ _ | exact hI0 _ _ | exact zin_and _ _ | (unfold zin; omega) | (unfold zin at *; omega)) (fun h136 => ?_) (fun h136 => ?_)
            · refine wp_iload (t := 83) rfl rfl ?_
              refine wp_istore (t := 84) rfl (by decide) rfl ?_
              refine wp_iload (t := 85) rfl rfl ?_
              refine wp_iload (t := 86) rfl rfl ?_
              refine wp_idiv (t := 87) rfl (by first | assumption | exact hI1 _ _ | exact hI0 _ _ | exact zin_and _ _ | (unfold zin; omega) | (unfold zin at *; omega)) (by first | assumption | exact hI1 _ _ | exact hI0 _ _ | exact zin_and _ _ | (unfold zin; omega) | (unfold zin at *; omega)) (by omega) ?_
              rw [td]
              refine wp_istore (t := 88) rfl (by decide) rfl ?_
              refine wp_iinc (t := 89) rfl rfl (by decide) rfl ?_
              refine wp_goto (t := 90) (tgt := 92) rfl (by decide) ?_
              refine ihf (k + 1) _ _ _ _ (by omega) (by omega) d0 (by omega) (by omega) (fun x x0 x1 => ?_) ?_ (fun b hb => by rw [zu_ne hb]; exact hf b hb)
              · rw [zu_fn]
                have := hJ x x0 x1
                dsimp only
                split <;> omega
              · rw [← he, zu_fn]
                congr 1
                omega
            · refine wp_aload_n (t := 78) rfl rfl ?_
              refine wp_getR (t := 79) (ji := 34) rfl fX10_67 rfl rfl (by omega) (by first | rfl | assumption) (by first | exact hW _ _ _ (by omega) rfl | assumption) ?_
              refine wp_iload (t := 80) rfl rfl ?_
              refine wp_iaload (t := 81) rfl (by omega) (by first | rfl | assumption) (by omega) (by omega) (by omega) ?_
              rw [zu_eq]
              refine wp_goto (t := 82) (tgt := 151) rfl (by decide) ?_
              refine wp_istore (t := 84) rfl (by decide) rfl ?_
              refine wp_iload (t := 85) rfl rfl ?_
              refine wp_iload (t := 86) rfl rfl ?_
              refine wp_idiv (t := 87) rfl (by first | assumption | exact hI1 _ _ | exact hI0 _ _ | exact zin_and _ _ | (unfold zin; omega) | (unfold zin at *; omega)) (by first | assumption | exact hI1 _ _ | exact hI0 _ _ | exact zin_and _ _ | (unfold zin; omega) | (unfold zin at *; omega)) (by omega) ?_
              rw [td]
              refine wp_istore (t := 88) rfl (by decide) rfl ?_
              refine wp_iinc (t := 89) rfl rfl (by decide) rfl ?_
              refine wp_goto (t := 90) (tgt := 92) rfl (by decide) ?_
              refine ihf (k + 1) _ _ _ _ (by omega) (by omega) d0 (by omega) (by omega) (fun x x0 x1 => ?_) ?_ (fun b hb => by rw [zu_ne hb]; exact hf b hb)
              · rw [zu_fn]
                have := hJ x x0 x1
                dsimp only
                split <;> omega
              · rw [← he, zu_fn]
                congr 1
                omega
      -- the loads are cleared
      have clear : ∀ (f : Nat) (l : Int) (J : zMem), 0 ≤ l → l + f = wd → (∀ x : Int, 0 ≤ x → x < l → J 135 x = 0) → (∀ b : Nat, b ≠ 135 → J b = I b) →
          WP G mX10_idealOf d 0 0 0 0 61 [some (zR 115), some (zI c), some (zI w), some (zI N), some (zI wd), some (zI (wd ^ N.toNat)), some (zI best), some (zI code), some (zI l), x9, x10, x11] [] n J R (zP1 (fun r I' R' => (r = iMin (mLn I c) N wd N.toNat (fun _ => 0) (wd ^ N.toNat).toNat ∧ ∀ b : Nat, b ≠ 135 → I' b = I b) ∧ R' = R)) := by
        intro f
        induction f with
        | zero =>
          intro l J l0 lf hz hf
          refine wp_iload (t := 34) rfl rfl ?_
          refine wp_iload (t := 35) rfl rfl ?_
          refine wp_icmp_ge (t := 36) (tgt := 82) rfl (by decide) (by first | assumption | exact hI0 _ _ | exact zin_and _ _ | (unfold zin; omega) | (unfold zin at *; omega)) (by first | assumption | exact hI0 _ _ | exact zin_and _ _ | (unfold zin; omega) | (unfold zin at *; omega)) (fun h65 => ?_) (fun h65 => ?_)
          · refine wp_iload (t := 44) rfl rfl ?_
            refine wp_istore (t := 45) rfl (by decide) rfl ?_
            refine wp_iconst (t := 46) rfl ?_
            refine wp_istore (t := 47) rfl (by decide) rfl ?_
            refine wp_iconst (t := 48) rfl ?_
            refine wp_istore (t := 49) rfl (by decide) rfl ?_
            exact digits N.toNat 0 code 0 J _ (by omega) (by omega) c0 (by omega) (by omega) (fun x x0 x1 => by rw [hz x x0 (by omega)]; omega) (iE_congr hwd1.1 _ _ _ _ _ (fun x x0 x1 => hz x x0 (by omega))) hf
          · exact absurd h65 (by omega)
        | succ f ihf =>
          intro l J l0 lf hz hf
          refine wp_canon (fun hI0 => ?_)
          refine wp_iload (t := 34) rfl rfl ?_
          refine wp_iload (t := 35) rfl rfl ?_
          refine wp_icmp_ge (t := 36) (tgt := 82) rfl (by decide) (by first | assumption | exact hI0 _ _ | exact zin_and _ _ | (unfold zin; omega) | (unfold zin at *; omega)) (by first | assumption | exact hI0 _ _ | exact zin_and _ _ | (unfold zin; omega) | (unfold zin at *; omega)) (fun h65 => ?_) (fun h65 => ?_)
          · exact absurd h65 (by omega)
          · refine wp_aload_n (t := 37) rfl rfl ?_
            refine wp_getR (t := 38) (ji := 34) rfl fX10_67 rfl rfl (by omega) (by first | rfl | assumption) (by first | exact hW _ _ _ (by omega) rfl | assumption) ?_
            refine wp_iload (t := 39) rfl rfl ?_
            refine wp_iconst (t := 40) rfl ?_
            refine wp_iastore (t := 41) rfl (by omega) (by first | rfl | assumption) (by omega) (by omega) (by omega) (by first | assumption | exact hI0 _ _ | exact zin_and _ _ | (unfold zin; omega) | (unfold zin at *; omega)) ?_
            refine wp_canon (fun hI1 => ?_)
            refine wp_iinc (t := 42) rfl rfl (by decide) rfl ?_
            refine wp_goto (t := 43) (tgt := 61) rfl (by decide) ?_
            refine ihf (l + 1) _ (by omega) (by omega) (fun x x0 x1 => ?_) (fun b hb => by rw [zu_ne hb]; exact hf b hb)
            by_cases e : x = l
            · rw [e, zu_eq]
            · rw [zu_ni e]
              exact hz x x0 (by omega)
      refine wp_iload (t := 29) rfl rfl ?_
      refine wp_iload (t := 30) rfl rfl ?_
      refine wp_icmp_ge (t := 31) (tgt := 188) rfl (by decide) (by first | assumption | exact hI0 _ _ | exact zin_and _ _ | (unfold zin; omega) | (unfold zin at *; omega)) (by first | assumption | exact hI0 _ _ | exact zin_and _ _ | (unfold zin; omega) | (unfold zin at *; omega)) (fun h55 => ?_) (fun h55 => ?_)
      · exact absurd h55 (by omega)
      · refine wp_iconst (t := 32) rfl ?_
        refine wp_istore (t := 33) rfl (by decide) rfl ?_
        exact clear wd.toNat 0 J (by omega) (by omega) (fun x x0 x1 => absurd x1 (by omega)) hf
  have pow : ∀ (f : Nat) (k al : Int), 0 ≤ k → k + f = N → al = wd ^ k.toNat → WP G mX10_idealOf d 0 0 0 0 25 [some (zR 115), some (zI c), some (zI w), some (zI N), some (zI wd), some (zI al), some (zI k), none, none, none, none, none] [] n I R (zP1 (fun r I' R' => (r = iMin (mLn I c) N wd N.toNat (fun _ => 0) (wd ^ N.toNat).toNat ∧ ∀ b : Nat, b ≠ 135 → I' b = I b) ∧ R' = R)) := by
    intro f
    induction f with
    | zero =>
      intro k al k0 kf hal
      refine wp_iload (t := 16) rfl rfl ?_
      refine wp_iload_n (t := 17) rfl rfl ?_
      refine wp_icmp_ge (t := 18) (tgt := 44) rfl (by decide) (by first | assumption | exact hI0 _ _ | exact zin_and _ _ | (unfold zin; omega) | (unfold zin at *; omega)) (by first | assumption | exact hI0 _ _ | exact zin_and _ _ | (unfold zin; omega) | (unfold zin at *; omega)) (fun h28 => ?_) (fun h28 => ?_)
      · refine wp_ldc (100000) (t := 25) rfl (wsL_law_r21_l (List.mem_of_getElem? (i := 9) rfl)) (by decide) ?_
        refine wp_istore (t := 26) rfl (by decide) rfl ?_
        refine wp_iconst (t := 27) rfl ?_
        refine wp_istore (t := 28) rfl (by decide) rfl ?_
        rw [hal, show k = N by omega]
        have hpN := hpb N.toNat (by omega)
        exact codes _ 0 100000 I _ _ _ _ (by omega) (by omega) rfl rfl (by omega) (fun _ _ => rfl)
      · exact absurd h28 (by omega)
    | succ f ih =>
      intro k al k0 kf hal
      refine wp_iload (t := 16) rfl rfl ?_
      refine wp_iload_n (t := 17) rfl rfl ?_
      refine wp_icmp_ge (t := 18) (tgt := 44) rfl (by decide) (by first | assumption | exact hI0 _ _ | exact zin_and _ _ | (unfold zin; omega) | (unfold zin at *; omega)) (by first | assumption | exact hI0 _ _ | exact zin_and _ _ | (unfold zin; omega) | (unfold zin at *; omega)) (fun h28 => ?_) (fun h28 => ?_)
      · exact absurd h28 (by omega)
      · refine wp_iload (t := 19) rfl rfl ?_
        refine wp_iload (t := 20) rfl rfl ?_
        refine wp_imul (t := 21) rfl ?_
        refine wp_istore (t := 22) rfl (by decide) rfl ?_
        refine wp_iinc (t := 23) rfl rfl (by decide) rfl ?_
        refine wp_goto (t := 24) (tgt := 25) rfl (by decide) ?_
        exact ih (k + 1) _ (by omega) (by omega) (by rw [hal, show (k + 1).toNat = k.toNat + 1 by omega, Int.pow_succ])
  refine wp_ls (ls' := [some (zR 115), some (zI c), some (zI w), none, none, none, none, none, none, none, none, none]) rfl ?_
  refine wp_aload_n (t := 0) rfl rfl ?_
  refine wp_getR (t := 1) (ji := 6) rfl fX10_16 rfl rfl (by omega) (by first | rfl | assumption) (by first | exact hW _ _ _ (by omega) rfl | assumption) ?_
  refine wp_iload_n (t := 2) rfl rfl ?_
  refine wp_iaload (t := 3) rfl (by omega) (by first | rfl | assumption) (by omega) (by omega) (by omega) ?_
  rw [hN]
  refine wp_istore_n (t := 4) rfl (by decide) rfl ?_
  refine wp_iload_n (t := 5) rfl rfl ?_
  refine wp_iload_n (t := 6) rfl rfl ?_
  refine wp_icmp_ge (t := 7) (tgt := 16) rfl (by decide) (by first | assumption | exact hI0 _ _ | exact zin_and _ _ | (unfold zin; omega) | (unfold zin at *; omega)) (by first | assumption | exact hI0 _ _ | exact zin_and _ _ | (unfold zin; omega) | (unfold zin at *; omega)) (fun h9 => ?_) (fun h9 => ?_)
  · refine wp_iload_n (t := 10) rfl rfl ?_
    refine wp_istore (t := 11) rfl (by decide) rfl ?_
    refine wp_iconst (t := 12) rfl ?_
    refine wp_istore (t := 13) rfl (by decide) rfl ?_
    refine wp_iconst (t := 14) rfl ?_
    refine wp_istore (t := 15) rfl (by decide) rfl ?_
    have ew : wd = N := by rw [← hwd]; unfold mWd; rw [hN, if_neg (by omega)]
    have := pow N.toNat 0 1 (by omega) (by omega) (by rw [show (0 : Int).toNat = 0 from rfl, Int.pow_zero])
    rw [ew] at this ⊢
    exact this
  · refine wp_iload_n (t := 8) rfl rfl ?_
    refine wp_goto (t := 9) (tgt := 17) rfl (by decide) ?_
    refine wp_istore (t := 11) rfl (by decide) rfl ?_
    refine wp_iconst (t := 12) rfl ?_
    refine wp_istore (t := 13) rfl (by decide) rfl ?_
    refine wp_iconst (t := 14) rfl ?_
    refine wp_istore (t := 15) rfl (by decide) rfl ?_
    have ew : wd = w := by rw [← hwd]; unfold mWd; rw [hN, if_pos (by omega)]
    have := pow N.toNat 0 1 (by omega) (by omega) (by rw [show (0 : Int).toNat = 0 from rfl, Int.pow_zero])
    rw [ew] at this ⊢
    exact this
