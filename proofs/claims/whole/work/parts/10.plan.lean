set_option maxHeartbeats 4000000 in
set_option maxRecDepth 100000 in
theorem c_X2_takes {G : zG} {d n : Nat} {I : zMem} {R : zRef} {c k w : Int} (hW : zWir n R) (hn : 115 ≤ n) (hc : 0 ≤ c ∧ c < 6) (hw : 0 ≤ w ∧ w < 9) (hk : zin k) (hp : 0 ≤ I 36 c ∧ I 36 c ≤ 20) (hl : 0 ≤ I (49 + c.toNat) w ∧ I (49 + c.toNat) w ≤ 54) : MT G mX2_takes (d + 1) 0 0 [zR 34, zI c, zI k, zI w] n I R (zP1 (fun r I' R' => r = tkOf k (I 36 c) (I (49 + c.toNat) w) ∧ I' = I ∧ R' = R)) := by
  refine MT.of (by decide +kernel) tX2_takes_ok (Nat.le_of_ble_eq_true rfl) (fun hI0 => ?_)
  have hr1 : R 48 c = some (49 + c.toNat) := zrowR (m := 6) hW (by omega) (by decide) hc.1 (by omega)
  have hl1 : zlay (49 + c.toNat) = (20, 9) := zrowL (m := 6) (by decide) (by omega) hc.1
  have h1 := zmulb hp.1 hp.2 hl.1 hl.2
  have h2 := zmulb (b := I (49 + c.toNat) w + 1) (B := 55) hp.1 hp.2 (by omega) (by omega)
  refine wp_ls (ls' := [some (zR 34), some (zI c), some (zI k), some (zI w), none, none, none, none]) rfl ?_
  refine wp_aload_n (t := 0) rfl rfl ?_
  refine wp_getR (t := 1) (ji := 5) rfl fX2_15 rfl rfl (by omega) (by first | rfl | assumption) (by first | exact hW _ _ _ (by omega) rfl | assumption) ?_
  refine wp_iload_n (t := 2) rfl rfl ?_
  refine wp_iaload (t := 3) rfl (by omega) (by first | rfl | assumption) (by omega) (by omega) (by decide) ?_
  refine wp_istore (t := 4) rfl (by decide) rfl ?_
  refine wp_aload_n (t := 5) rfl rfl ?_
  refine wp_getR (t := 6) (ji := 11) rfl fX2_35 rfl rfl (by omega) (by first | rfl | assumption) (by first | exact hW _ _ _ (by omega) rfl | assumption) ?_
  refine wp_iload_n (t := 7) rfl rfl ?_
  refine wp_aaload (t := 8) rfl (by omega) (by first | rfl | assumption) (by omega) (by omega) (by decide) (by first | exact hW _ _ _ (by omega) rfl | assumption) ?_
  refine wp_iload_n (t := 9) rfl rfl ?_
  refine wp_iaload (t := 10) rfl (by omega) (by first | rfl | assumption) (by omega) (by omega) (by decide) ?_
  refine wp_istore (t := 11) rfl (by decide) rfl ?_
  refine wp_iload (t := 12) rfl rfl ?_
  refine wp_iload (t := 13) rfl rfl ?_
  refine wp_iconst (t := 14) rfl ?_
  refine wp_iadd (t := 15) rfl ?_
  refine wp_imul (t := 16) rfl ?_
  refine wp_iload (t := 17) rfl rfl ?_
  refine wp_iadd (t := 18) rfl ?_
  refine wp_istore (t := 19) rfl (by decide) rfl ?_
  refine wp_iload (t := 20) rfl rfl ?_
  refine wp_iload (t := 21) rfl rfl ?_
  refine wp_iload (t := 22) rfl rfl ?_
  refine wp_imul (t := 23) rfl ?_
  refine wp_iadd (t := 24) rfl ?_
  refine wp_istore (t := 25) rfl (by decide) rfl ?_
  refine wp_iload_n (t := 26) rfl rfl ?_
  refine wp_top (fun y41 e41 => ?_)
  have z41 : zin y41 := (by first | assumption | exact hI0 _ _ | exact zin_and _ _ | (unfold zin; omega) | (unfold zin at *; omega) | (rw [e41]; first | exact hI0 _ _ | (unfold zin; omega)))
  rcases (show y41 = 0 ∨ y41 = 1 ∨ y41 = 2 ∨ (y41 < 0 ∨ 2 < y41) by omega) with h41 | h41 | h41 | h41
  · refine wp_tin (0) (t := 27) (off := 27) (tgt := 68) rfl h41 z41 (by decide) (by decide) rfl (by decide) ?_
    refine wp_iload (t := 28) rfl rfl ?_
    refine wp_ireturn (t := 29) rfl rfl ?_
    refine ⟨_, rfl, ?_, rfl, rfl⟩
    unfold tkOf
    first | rw [if_pos (by omega)] | rw [if_neg (by omega), if_pos (by omega)] | rw [if_neg (by omega), if_neg (by omega), if_pos (by omega)] | rw [if_neg (by omega), if_neg (by omega), if_neg (by omega), ztdiv2 (by omega)]
  · refine wp_tin (1) (t := 27) (off := 30) (tgt := 71) rfl h41 z41 (by decide) (by decide) rfl (by decide) ?_
    refine wp_iload (t := 30) rfl rfl ?_
    refine wp_ireturn (t := 31) rfl rfl ?_
    refine ⟨_, rfl, ?_, rfl, rfl⟩
    unfold tkOf
    first | rw [if_pos (by omega)] | rw [if_neg (by omega), if_pos (by omega)] | rw [if_neg (by omega), if_neg (by omega), if_pos (by omega)] | rw [if_neg (by omega), if_neg (by omega), if_neg (by omega), ztdiv2 (by omega)]
  · refine wp_tin (2) (t := 27) (off := 33) (tgt := 74) rfl h41 z41 (by decide) (by decide) rfl (by decide) ?_
    refine wp_iload (t := 32) rfl rfl ?_
    refine wp_bipush (t := 33) rfl (by decide) ?_
    refine wp_max (t := 34) rfl (wsL_law_r12_l (List.mem_of_getElem? (i := 7) rfl)) (by first | assumption | exact hI0 _ _ | exact zin_and _ _ | (unfold zin; omega) | (unfold zin at *; omega)) (by first | assumption | exact hI0 _ _ | exact zin_and _ _ | (unfold zin; omega) | (unfold zin at *; omega)) (Nat.le_of_ble_eq_true rfl) ⟨Nat.le_refl _, Nat.le_refl _⟩ ?_
    refine wp_ireturn (t := 35) rfl rfl ?_
    refine ⟨_, rfl, ?_, rfl, rfl⟩
    unfold tkOf
    first | rw [if_pos (by omega)] | rw [if_neg (by omega), if_pos (by omega)] | rw [if_neg (by omega), if_neg (by omega), if_pos (by omega)] | rw [if_neg (by omega), if_neg (by omega), if_neg (by omega), ztdiv2 (by omega)]
  · refine wp_tout (t := 27) (tgt := 82) rfl z41 h41 (by decide) ?_
    refine wp_iload (t := 36) rfl rfl ?_
    refine wp_iconst (t := 37) rfl ?_
    refine wp_iadd (t := 38) rfl ?_
    refine wp_iconst (t := 39) rfl ?_
    refine wp_idiv (t := 40) rfl (by first | assumption | exact hI0 _ _ | exact zin_and _ _ | (unfold zin; omega) | (unfold zin at *; omega)) (by first | assumption | exact hI0 _ _ | exact zin_and _ _ | (unfold zin; omega) | (unfold zin at *; omega)) (by omega) ?_
    refine wp_ireturn (t := 41) rfl rfl ?_
    refine ⟨_, rfl, ?_, rfl, rfl⟩
    unfold tkOf
    first | rw [if_pos (by omega)] | rw [if_neg (by omega), if_pos (by omega)] | rw [if_neg (by omega), if_neg (by omega), if_pos (by omega)] | rw [if_neg (by omega), if_neg (by omega), if_neg (by omega), ztdiv2 (by omega)]
set_option maxHeartbeats 4000000 in
set_option maxRecDepth 100000 in
theorem c_X3_isPut {G : zG} {d n : Nat} {I : zMem} {R : zRef} {p : Nat} {c : Int} (hp : p = 64 ∨ p = 86) (hW : zWir n R) (hn : 115 ≤ n) (hc : 0 ≤ c ∧ c < 6) : MT G mX3_isPut d 0 0 [zR p, zI c] n I R (zP1 (fun r I' R' => r = (if 0 < I (p + 2) c then 1 else 0) ∧ I' = I ∧ R' = R)) := by
  refine MT.of (by decide +kernel) tX3_isPut_ok (Nat.le_of_ble_eq_true rfl) (fun hI0 => ?_)
  obtain ⟨hl0, hl1, hl2, hl3, hl4, hl5, hp1⟩ := zpl hp
  obtain ⟨hr0, hr1, hr2, hr3, hr4, hr5⟩ := zpr hp hW hn
  refine wp_ls (ls' := [some (zR p), some (zI c)]) rfl ?_
  refine wp_aload_n (t := 0) rfl rfl ?_
  refine wp_getR (t := 1) (ji := 2) rfl fX3_15 rfl rfl (by omega) (by first | rfl | assumption) (by first | exact hW _ _ _ (by omega) rfl | assumption) ?_
  refine wp_iload_n (t := 2) rfl rfl ?_
  refine wp_iaload (t := 3) rfl (by omega) (by first | rfl | assumption) (by omega) (by omega) (by decide) ?_
  refine wp_if_le (t := 4) (tgt := 13) rfl (by decide) (by first | assumption | exact hI0 _ _ | exact zin_and _ _ | (unfold zin; omega) | (unfold zin at *; omega)) (fun h6 => ?_) (fun h6 => ?_)
  · refine wp_iconst (t := 7) rfl ?_
    refine wp_zreturn (t := 8) rfl rfl (by omega) ?_
    exact ⟨_, rfl, by first | rw [if_pos (by omega)] | rw [if_neg (by omega)], rfl, rfl⟩
  · refine wp_iconst (t := 5) rfl ?_
    refine wp_goto (t := 6) (tgt := 14) rfl (by decide) ?_
    refine wp_zreturn (t := 8) rfl rfl (by omega) ?_
    exact ⟨_, rfl, by first | rw [if_pos (by omega)] | rw [if_neg (by omega)], rfl, rfl⟩
set_option maxHeartbeats 4000000 in
set_option maxRecDepth 100000 in
theorem c_X3_takes {G : zG} {d n : Nat} {I : zMem} {R : zRef} {p : Nat} {c w : Int} (hp : p = 64 ∨ p = 86) (hW : zWir n R) (hn : 115 ≤ n) (hc : 0 ≤ c ∧ c < 6) (hw : 0 ≤ w ∧ w < 9) (hq : 0 ≤ I 36 c ∧ I 36 c ≤ 20) (hl : 0 ≤ I (49 + c.toNat) w ∧ I (49 + c.toNat) w ≤ 54) : MT G mX3_takes (d + 2) 0 0 [zR p, zI c, zI w] n I R (zP1 (fun r I' R' => r = sT (cS I p) c w ∧ I' = I ∧ R' = R)) := by
  refine MT.of (by decide +kernel) tX3_takes_ok (Nat.le_of_ble_eq_true rfl) (fun hI0 => ?_)
  obtain ⟨hl0, hl1, hl2, hl3, hl4, hl5, hp1⟩ := zpl hp
  obtain ⟨hr0, hr1, hr2, hr3, hr4, hr5⟩ := zpr hp hW hn
  refine wp_ls (ls' := [some (zR p), some (zI c), some (zI w)]) rfl ?_
  refine wp_aload_n (t := 0) rfl rfl ?_
  refine wp_getR (t := 1) (ji := 0) rfl fX3_27 rfl rfl (by omega) (by first | rfl | assumption) (by first | exact hW _ _ _ (by omega) rfl | assumption) ?_
  refine wp_iload_n (t := 2) rfl rfl ?_
  refine wp_aload_n (t := 3) rfl rfl ?_
  refine wp_getR (t := 4) (ji := 1) rfl fX3_9 rfl rfl (by omega) (by first | rfl | assumption) (by first | exact hW _ _ _ (by omega) rfl | assumption) ?_
  refine wp_iload_n (t := 5) rfl rfl ?_
  refine wp_iaload (t := 6) rfl (by omega) (by first | rfl | assumption) (by omega) (by omega) (by decide) ?_
  refine wp_iload_n (t := 7) rfl rfl ?_
  refine wp_vi (ci := 2) (c_X2_takes hW hn hc hw (hI0 _ _) hq hl) (t := 8) rfl kX3_51 rfl rfl (by omega) (by first | rfl | assumption) ⟨_, _, rfl⟩ (Nat.le_of_ble_eq_true rfl) ⟨Nat.le_refl _, Nat.le_refl _⟩ (fun r12 I12 R12 c12 => ?_)
  refine wp_canon (fun hI1 => ?_)
  obtain ⟨rfl, rfl, rfl⟩ := c12
  refine wp_ireturn (t := 9) rfl rfl ?_
  exact ⟨_, rfl, (cS_T hc).symm, rfl, rfl⟩
set_option maxHeartbeats 4000000 in
set_option maxRecDepth 100000 in
theorem c_X3_used {G : zG} {d n : Nat} {I : zMem} {R : zRef} {p : Nat} {what t : Int} (hp : p = 64 ∨ p = 86) (hW : zWir n R) (hn : 115 ≤ n) (hco : 0 ≤ I 34 2 ∧ I 34 2 ≤ 6) (hz1 : zin what) (hz2 : zin t) : MT G mX3_used d 0 0 [zR p, zI what, zI t] n I R (zP1 (fun r I' R' => r = sUse (cS I p) what t ∧ I' = I ∧ R' = R)) := by
  refine MT.of (by decide +kernel) tX3_used_ok (Nat.le_of_ble_eq_true rfl) (fun hI0 => ?_)
  obtain ⟨hl0, hl1, hl2, hl3, hl4, hl5, hp1⟩ := zpl hp
  obtain ⟨hr0, hr1, hr2, hr3, hr4, hr5⟩ := zpr hp hW hn
  have key : ∀ (m : Nat) (c s : Int), 0 ≤ c → c ≤ I 34 2 → (I 34 2 - c).toNat = m → s = zsum (fun c => if 0 < I (p + 2) c ∧ I (p + 3) c ≤ t ∧ t < I (p + 4) c then (if what = 0 then I (p + 2) c else if what = 1 then I 37 c else zishl 1 c) else 0) c.toNat → WP G mX3_used d 0 0 0 0 5 [some (zR p), some (zI what), some (zI t), some (zI s), some (zI c)] [] n I R (zP1 (fun r I' R' => r = sUse (cS I p) what t ∧ I' = I ∧ R' = R)) := by
    intro m
    induction m with
    | zero =>
      intro c s h0 h1 hm hs
      refine wp_iload (t := 4) rfl rfl ?_
      refine wp_aload_n (t := 5) rfl rfl ?_
      refine wp_getR (t := 6) (ji := 0) rfl fX3_27 rfl rfl (by omega) (by first | rfl | assumption) (by first | exact hW _ _ _ (by omega) rfl | assumption) ?_
      refine wp_getI (t := 7) (ji := 2) rfl fX3_63 rfl rfl (by omega) (by first | rfl | assumption) ?_
      refine wp_icmp_ge (t := 8) (tgt := 100) rfl (by decide) (by first | assumption | exact hI0 _ _ | exact zin_and _ _ | (unfold zin; omega) | (unfold zin at *; omega)) (by first | assumption | exact hI0 _ _ | exact zin_and _ _ | (unfold zin; omega) | (unfold zin at *; omega)) (fun h14 => ?_) (fun h14 => ?_)
      · refine wp_iload_n (t := 56) rfl rfl ?_
        refine wp_ireturn (t := 57) rfl rfl ?_
        exact ⟨_, rfl, by rw [hs, show c = I 34 2 by omega]; rfl, rfl, rfl⟩
      · exact absurd h14 (by omega)
    | succ m ih =>
      intro c s h0 h1 hm hs
      refine wp_iload (t := 4) rfl rfl ?_
      refine wp_aload_n (t := 5) rfl rfl ?_
      refine wp_getR (t := 6) (ji := 0) rfl fX3_27 rfl rfl (by omega) (by first | rfl | assumption) (by first | exact hW _ _ _ (by omega) rfl | assumption) ?_
      refine wp_getI (t := 7) (ji := 2) rfl fX3_63 rfl rfl (by omega) (by first | rfl | assumption) ?_
      refine wp_icmp_ge (t := 8) (tgt := 100) rfl (by decide) (by first | assumption | exact hI0 _ _ | exact zin_and _ _ | (unfold zin; omega) | (unfold zin at *; omega)) (by first | assumption | exact hI0 _ _ | exact zin_and _ _ | (unfold zin; omega) | (unfold zin at *; omega)) (fun h14 => ?_) (fun h14 => ?_)
      · exact absurd h14 (by omega)
      · refine wp_aload_n (t := 9) rfl rfl ?_
        refine wp_getR (t := 10) (ji := 2) rfl fX3_15 rfl rfl (by omega) (by first | rfl | assumption) (by first | exact hW _ _ _ (by omega) rfl | assumption) ?_
        refine wp_iload (t := 11) rfl rfl ?_
        refine wp_iaload (t := 12) rfl (by omega) (by first | rfl | assumption) (by omega) (by omega) (by decide) ?_
        refine wp_if_le (t := 13) (tgt := 94) rfl (by decide) (by first | assumption | exact hI0 _ _ | exact zin_and _ _ | (unfold zin; omega) | (unfold zin at *; omega)) (fun h24 => ?_) (fun h24 => ?_)
        · refine wp_iinc (t := 54) rfl rfl (by decide) rfl ?_
          refine wp_goto (t := 55) (tgt := 5) rfl (by decide) ?_
          refine ih (c + 1) _ (by omega) (by omega) (by omega) ?_
          rw [zsum_succ _ h0, ← hs]
          first | rw [if_pos (by omega), if_pos (by omega)] | rw [if_pos (by omega), if_neg (by omega), if_pos (by omega)] | rw [if_pos (by omega), if_neg (by omega), if_neg (by omega)] | rw [if_neg (by omega), Int.add_zero]
        · refine wp_aload_n (t := 14) rfl rfl ?_
          refine wp_getR (t := 15) (ji := 3) rfl fX3_18 rfl rfl (by omega) (by first | rfl | assumption) (by first | exact hW _ _ _ (by omega) rfl | assumption) ?_
          refine wp_iload (t := 16) rfl rfl ?_
          refine wp_iaload (t := 17) rfl (by omega) (by first | rfl | assumption) (by omega) (by omega) (by decide) ?_
          refine wp_iload_n (t := 18) rfl rfl ?_
          refine wp_icmp_gt (t := 19) (tgt := 94) rfl (by decide) (by first | assumption | exact hI0 _ _ | exact zin_and _ _ | (unfold zin; omega) | (unfold zin at *; omega)) (by first | assumption | exact hI0 _ _ | exact zin_and _ _ | (unfold zin; omega) | (unfold zin at *; omega)) (fun h35 => ?_) (fun h35 => ?_)
          · refine wp_iinc (t := 54) rfl rfl (by decide) rfl ?_
            refine wp_goto (t := 55) (tgt := 5) rfl (by decide) ?_
            refine ih (c + 1) _ (by omega) (by omega) (by omega) ?_
            rw [zsum_succ _ h0, ← hs]
            first | rw [if_pos (by omega), if_pos (by omega)] | rw [if_pos (by omega), if_neg (by omega), if_pos (by omega)] | rw [if_pos (by omega), if_neg (by omega), if_neg (by omega)] | rw [if_neg (by omega), Int.add_zero]
          · refine wp_iload_n (t := 20) rfl rfl ?_
            refine wp_aload_n (t := 21) rfl rfl ?_
            refine wp_getR (t := 22) (ji := 4) rfl fX3_21 rfl rfl (by omega) (by first | rfl | assumption) (by first | exact hW _ _ _ (by omega) rfl | assumption) ?_
            refine wp_iload (t := 23) rfl rfl ?_
            refine wp_iaload (t := 24) rfl (by omega) (by first | rfl | assumption) (by omega) (by omega) (by decide) ?_
            refine wp_icmp_ge (t := 25) (tgt := 94) rfl (by decide) (by first | assumption | exact hI0 _ _ | exact zin_and _ _ | (unfold zin; omega) | (unfold zin at *; omega)) (by first | assumption | exact hI0 _ _ | exact zin_and _ _ | (unfold zin; omega) | (unfold zin at *; omega)) (fun h46 => ?_) (fun h46 => ?_)
            · refine wp_iinc (t := 54) rfl rfl (by decide) rfl ?_
              refine wp_goto (t := 55) (tgt := 5) rfl (by decide) ?_
              refine ih (c + 1) _ (by omega) (by omega) (by omega) ?_
              rw [zsum_succ _ h0, ← hs]
              first | rw [if_pos (by omega), if_pos (by omega)] | rw [if_pos (by omega), if_neg (by omega), if_pos (by omega)] | rw [if_pos (by omega), if_neg (by omega), if_neg (by omega)] | rw [if_neg (by omega), Int.add_zero]
            · refine wp_iload_n (t := 26) rfl rfl ?_
              refine wp_if_ne (t := 27) (tgt := 66) rfl (by decide) (by first | assumption | exact hI0 _ _ | exact zin_and _ _ | (unfold zin; omega) | (unfold zin at *; omega)) (fun h50 => ?_) (fun h50 => ?_)
              · refine wp_iload_n (t := 36) rfl rfl ?_
                refine wp_iconst (t := 37) rfl ?_
                refine wp_icmp_ne (t := 38) (tgt := 87) rfl (by decide) (by first | assumption | exact hI0 _ _ | exact zin_and _ _ | (unfold zin; omega) | (unfold zin at *; omega)) (by first | assumption | exact hI0 _ _ | exact zin_and _ _ | (unfold zin; omega) | (unfold zin at *; omega)) (fun h68 => ?_) (fun h68 => ?_)
                · refine wp_iload_n (t := 48) rfl rfl ?_
                  refine wp_iconst (t := 49) rfl ?_
                  refine wp_iload (t := 50) rfl rfl ?_
                  refine wp_ishl (t := 51) rfl ?_
                  refine wp_iadd (t := 52) rfl ?_
                  refine wp_istore_n (t := 53) rfl (by decide) rfl ?_
                  refine wp_iinc (t := 54) rfl rfl (by decide) rfl ?_
                  refine wp_goto (t := 55) (tgt := 5) rfl (by decide) ?_
                  refine ih (c + 1) _ (by omega) (by omega) (by omega) ?_
                  rw [zsum_succ _ h0, ← hs]
                  first | rw [if_pos (by omega), if_pos (by omega)] | rw [if_pos (by omega), if_neg (by omega), if_pos (by omega)] | rw [if_pos (by omega), if_neg (by omega), if_neg (by omega)] | rw [if_neg (by omega), Int.add_zero]
                · refine wp_iload_n (t := 39) rfl rfl ?_
                  refine wp_aload_n (t := 40) rfl rfl ?_
                  refine wp_getR (t := 41) (ji := 0) rfl fX3_27 rfl rfl (by omega) (by first | rfl | assumption) (by first | exact hW _ _ _ (by omega) rfl | assumption) ?_
                  refine wp_getR (t := 42) (ji := 6) rfl fX3_73 rfl rfl (by omega) (by first | rfl | assumption) (by first | exact hW _ _ _ (by omega) rfl | assumption) ?_
                  refine wp_iload (t := 43) rfl rfl ?_
                  refine wp_iaload (t := 44) rfl (by omega) (by first | rfl | assumption) (by omega) (by omega) (by decide) ?_
                  refine wp_iadd (t := 45) rfl ?_
                  refine wp_istore_n (t := 46) rfl (by decide) rfl ?_
                  refine wp_goto (t := 47) (tgt := 94) rfl (by decide) ?_
                  refine wp_iinc (t := 54) rfl rfl (by decide) rfl ?_
                  refine wp_goto (t := 55) (tgt := 5) rfl (by decide) ?_
                  refine ih (c + 1) _ (by omega) (by omega) (by omega) ?_
                  rw [zsum_succ _ h0, ← hs]
                  first | rw [if_pos (by omega), if_pos (by omega)] | rw [if_pos (by omega), if_neg (by omega), if_pos (by omega)] | rw [if_pos (by omega), if_neg (by omega), if_neg (by omega)] | rw [if_neg (by omega), Int.add_zero]
              · refine wp_iload_n (t := 28) rfl rfl ?_
                refine wp_aload_n (t := 29) rfl rfl ?_
                refine wp_getR (t := 30) (ji := 2) rfl fX3_15 rfl rfl (by omega) (by first | rfl | assumption) (by first | exact hW _ _ _ (by omega) rfl | assumption) ?_
                refine wp_iload (t := 31) rfl rfl ?_
                refine wp_iaload (t := 32) rfl (by omega) (by first | rfl | assumption) (by omega) (by omega) (by decide) ?_
                refine wp_iadd (t := 33) rfl ?_
                refine wp_istore_n (t := 34) rfl (by decide) rfl ?_
                refine wp_goto (t := 35) (tgt := 94) rfl (by decide) ?_
                refine wp_iinc (t := 54) rfl rfl (by decide) rfl ?_
                refine wp_goto (t := 55) (tgt := 5) rfl (by decide) ?_
                refine ih (c + 1) _ (by omega) (by omega) (by omega) ?_
                rw [zsum_succ _ h0, ← hs]
                first | rw [if_pos (by omega), if_pos (by omega)] | rw [if_pos (by omega), if_neg (by omega), if_pos (by omega)] | rw [if_pos (by omega), if_neg (by omega), if_neg (by omega)] | rw [if_neg (by omega), Int.add_zero]
  refine wp_ls (ls' := [some (zR p), some (zI what), some (zI t), none, none]) rfl ?_
  refine wp_iconst (t := 0) rfl ?_
  refine wp_istore_n (t := 1) rfl (by decide) rfl ?_
  refine wp_iconst (t := 2) rfl ?_
  refine wp_istore (t := 3) rfl (by decide) rfl ?_
  exact key _ 0 0 (by omega) (by omega) rfl rfl
set_option maxHeartbeats 4000000 in
set_option maxRecDepth 100000 in
theorem c_X3_place {G : zG} {d n : Nat} {I : zMem} {R : zRef} {p : Nat} {c w t : Int} (hp : p = 64 ∨ p = 86) (hW : zWir n R) (hn : 115 ≤ n) (hc : 0 ≤ c ∧ c < 6) (hw : 0 ≤ w ∧ w < 9) (hq : 1 ≤ I 36 c ∧ I 36 c ≤ 20) (hl : 1 ≤ I (49 + c.toNat) w ∧ I (49 + c.toNat) w ≤ 54) (ht : 0 ≤ t ∧ t ≤ 1010000) : MT G mX3_place (d + 3) 0 0 [zR p, zI c, zI w, zI t] n I R (zP0 (fun I' R' => I' = zu (zu (zu I (p + 2) c w) (p + 3) c t) (p + 4) c (t + sT (cS I p) c w) ∧ R' = R)) := by
  refine MT.of (by decide +kernel) tX3_place_ok (Nat.le_of_ble_eq_true rfl) (fun hI0 => ?_)
  obtain ⟨hl0, hl1, hl2, hl3, hl4, hl5, hp1⟩ := zpl hp
  obtain ⟨hr0, hr1, hr2, hr3, hr4, hr5⟩ := zpr hp hW hn
  have e1 : ∀ (b : Nat) (j : Int), b ≠ p + 2 → b ≠ p + 3 → zu (zu I (p + 2) c w) (p + 3) c t b j = I b j := fun b j g1 g2 => by rw [zu_na g2, zu_na g1]
  have e2 := e1 36 c (by omega) (by omega)
  have e3 := e1 (49 + c.toNat) w (by omega) (by omega)
  have e4 := e1 (p + 1) c (by omega) (by omega)
  have hb := tkOf_b (k := I (p + 1) c) hq hl
  rw [← cS_T (p := p) hc] at hb
  refine wp_ls (ls' := [some (zR p), some (zI c), some (zI w), some (zI t)]) rfl ?_
  refine wp_aload_n (t := 0) rfl rfl ?_
  refine wp_getR (t := 1) (ji := 2) rfl fX3_15 rfl rfl (by omega) (by first | rfl | assumption) (by first | exact hW _ _ _ (by omega) rfl | assumption) ?_
  refine wp_iload_n (t := 2) rfl rfl ?_
  refine wp_iload_n (t := 3) rfl rfl ?_
  refine wp_iastore (t := 4) rfl (by omega) (by first | rfl | assumption) (by omega) (by omega) (by decide) (by first | assumption | exact hI0 _ _ | exact zin_and _ _ | (unfold zin; omega) | (unfold zin at *; omega)) ?_
  refine wp_canon (fun hI1 => ?_)
  refine wp_aload_n (t := 5) rfl rfl ?_
  refine wp_getR (t := 6) (ji := 3) rfl fX3_18 rfl rfl (by omega) (by first | rfl | assumption) (by first | exact hW _ _ _ (by omega) rfl | assumption) ?_
  refine wp_iload_n (t := 7) rfl rfl ?_
  refine wp_iload_n (t := 8) rfl rfl ?_
  refine wp_iastore (t := 9) rfl (by omega) (by first | rfl | assumption) (by omega) (by omega) (by decide) (by first | assumption | exact hI1 _ _ | exact hI0 _ _ | exact zin_and _ _ | (unfold zin; omega) | (unfold zin at *; omega)) ?_
  refine wp_canon (fun hI2 => ?_)
  refine wp_aload_n (t := 10) rfl rfl ?_
  refine wp_getR (t := 11) (ji := 4) rfl fX3_21 rfl rfl (by omega) (by first | rfl | assumption) (by first | exact hW _ _ _ (by omega) rfl | assumption) ?_
  refine wp_iload_n (t := 12) rfl rfl ?_
  refine wp_iload_n (t := 13) rfl rfl ?_
  refine wp_aload_n (t := 14) rfl rfl ?_
  refine wp_iload_n (t := 15) rfl rfl ?_
  refine wp_iload_n (t := 16) rfl rfl ?_
  refine wp_vi (ci := 3) (c_X3_takes hp hW hn hc hw (by rw [e2]; omega) (by rw [e3]; omega)) (t := 17) rfl kX3_47 rfl rfl (by omega) (by first | rfl | assumption) ⟨_, _, rfl⟩ (Nat.le_of_ble_eq_true rfl) ⟨Nat.le_refl _, Nat.le_refl _⟩ (fun r23 I23 R23 c23 => ?_)
  refine wp_canon (fun hI3 => ?_)
  obtain ⟨rfl, rfl, rfl⟩ := c23
  rw [show sT (cS (zu (zu I (p + 2) c w) (p + 3) c t) p) c w = sT (cS I p) c w by rw [cS_T hc, cS_T hc, e2, e3, e4]]
  refine wp_iadd (t := 18) rfl ?_
  refine wp_iastore (t := 19) rfl (by omega) (by first | rfl | assumption) (by omega) (by omega) (by decide) (by unfold zin; have : sT (cS I p) c w ≤ 2234 := hb.2; have : 2 ≤ sT (cS I p) c w := hb.1; omega) ?_
  refine wp_canon (fun hI4 => ?_)
  refine wp_return (t := 20) rfl rfl ?_
  exact ⟨rfl, rfl, rfl⟩
set_option maxHeartbeats 4000000 in
set_option maxRecDepth 100000 in
theorem c_X3_takeOff {G : zG} {d n : Nat} {I : zMem} {R : zRef} {p : Nat} {c : Int} (hp : p = 64 ∨ p = 86) (hW : zWir n R) (hn : 115 ≤ n) (hc : 0 ≤ c ∧ c < 6) : MT G mX3_takeOff d 0 0 [zR p, zI c] n I R (zP0 (fun I' R' => I' = zu (zu (zu I (p + 2) c 0) (p + 3) c 0) (p + 4) c 0 ∧ R' = R)) := by
  refine MT.of (by decide +kernel) tX3_takeOff_ok (Nat.le_of_ble_eq_true rfl) (fun hI0 => ?_)
  obtain ⟨hl0, hl1, hl2, hl3, hl4, hl5, hp1⟩ := zpl hp
  obtain ⟨hr0, hr1, hr2, hr3, hr4, hr5⟩ := zpr hp hW hn
  refine wp_ls (ls' := [some (zR p), some (zI c)]) rfl ?_
  refine wp_aload_n (t := 0) rfl rfl ?_
  refine wp_getR (t := 1) (ji := 2) rfl fX3_15 rfl rfl (by omega) (by first | rfl | assumption) (by first | exact hW _ _ _ (by omega) rfl | assumption) ?_
  refine wp_iload_n (t := 2) rfl rfl ?_
  refine wp_iconst (t := 3) rfl ?_
  refine wp_iastore (t := 4) rfl (by omega) (by first | rfl | assumption) (by omega) (by omega) (by decide) (by first | assumption | exact hI0 _ _ | exact zin_and _ _ | (unfold zin; omega) | (unfold zin at *; omega)) ?_
  refine wp_canon (fun hI1 => ?_)
  refine wp_aload_n (t := 5) rfl rfl ?_
  refine wp_getR (t := 6) (ji := 3) rfl fX3_18 rfl rfl (by omega) (by first | rfl | assumption) (by first | exact hW _ _ _ (by omega) rfl | assumption) ?_
  refine wp_iload_n (t := 7) rfl rfl ?_
  refine wp_iconst (t := 8) rfl ?_
  refine wp_iastore (t := 9) rfl (by omega) (by first | rfl | assumption) (by omega) (by omega) (by decide) (by first | assumption | exact hI1 _ _ | exact hI0 _ _ | exact zin_and _ _ | (unfold zin; omega) | (unfold zin at *; omega)) ?_
  refine wp_canon (fun hI2 => ?_)
  refine wp_aload_n (t := 10) rfl rfl ?_
  refine wp_getR (t := 11) (ji := 4) rfl fX3_21 rfl rfl (by omega) (by first | rfl | assumption) (by first | exact hW _ _ _ (by omega) rfl | assumption) ?_
  refine wp_iload_n (t := 12) rfl rfl ?_
  refine wp_iconst (t := 13) rfl ?_
  refine wp_iastore (t := 14) rfl (by omega) (by first | rfl | assumption) (by omega) (by omega) (by decide) (by first | assumption | exact hI2 _ _ | exact hI1 _ _ | exact hI0 _ _ | exact zin_and _ _ | (unfold zin; omega) | (unfold zin at *; omega)) ?_
  refine wp_canon (fun hI3 => ?_)
  refine wp_return (t := 15) rfl rfl ?_
  exact ⟨rfl, rfl, rfl⟩
