set_option maxHeartbeats 4000000 in
set_option maxRecDepth 100000 in
theorem c_X3_notDoneAhead {G : zG} {d n : Nat} {I : zMem} {R : zRef} {p : Nat} {c t : Int} (hp : p = 64 ∨ p = 86) (hW : zWir n R) (hn : 115 ≤ n) (hch : zCh I) (hpl : zPl I p) (hc : 0 ≤ c ∧ c < 6) (ht : zin t) : MT G mX3_notDoneAhead d 0 0 [zR p, zI c, zI t] n I R (zP1 (fun r I' R' => r = sNot (cS I p) c t ∧ I' = I ∧ R' = R)) := by
  refine MT.of (by decide +kernel) tX3_notDoneAhead_ok (Nat.le_of_ble_eq_true rfl) (fun hI0 => ?_)
  obtain ⟨hl0, hl1, hl2, hl3, hl4, hl5, hp1⟩ := zpl hp
  obtain ⟨hr0, hr1, hr2, hr3, hr4, hr5⟩ := zpr hp hW hn
  have hco := hch.1
  have key : ∀ (m : Nat) (a : Int) (x : Option zV), 0 ≤ a → a ≤ I 34 2 → (I 34 2 - a).toNat = m → (∀ i : Int, 0 ≤ i → i < a → (zbt (I (p + 5) c) i && (decide (¬ 0 < I (p + 2) i) || decide (t < I (p + 4) i))) = false) → WP G mX3_notDoneAhead d 0 0 0 0 2 [some (zR p), some (zI c), some (zI t), some (zI a)] [] n I R (zP1 (fun r I' R' => r = sNot (cS I p) c t ∧ I' = I ∧ R' = R)) := by
    intro m
    induction m with
    | zero =>
      intro a x h0 h1 hm hs
      refine wp_iload_n (t := 2) rfl rfl ?_
      refine wp_aload_n (t := 3) rfl rfl ?_
      refine wp_getR (t := 4) (ji := 0) rfl fX3_27 rfl rfl (by omega) (by first | rfl | assumption) (by first | exact hW _ _ _ (by omega) rfl | assumption) ?_
      refine wp_getI (t := 5) (ji := 2) rfl fX3_63 rfl rfl (by omega) (by first | rfl | assumption) ?_
      refine wp_icmp_ge (t := 6) (tgt := 54) rfl (by decide) (by first | assumption | exact hI0 _ _ | exact zin_and _ _ | (unfold zin; omega) | (unfold zin at *; omega)) (by first | assumption | exact hI0 _ _ | exact zin_and _ _ | (unfold zin; omega) | (unfold zin at *; omega)) (fun h10 => ?_) (fun h10 => ?_)
      · refine wp_bipush (t := 32) rfl (by decide) ?_
        refine wp_ireturn (t := 33) rfl rfl ?_
        exact ⟨_, rfl, (zfirst_none (fun i g0 g1 => hs i g0 (by have : i < ((I 34 2).toNat : Int) := g1; omega))).symm, rfl, rfl⟩
      · exact absurd h10 (by omega)
    | succ m ih =>
      intro a x h0 h1 hm hs
      have hwa := (hpl a h0 (by omega)).2.1
      refine wp_iload_n (t := 2) rfl rfl ?_
      refine wp_aload_n (t := 3) rfl rfl ?_
      refine wp_getR (t := 4) (ji := 0) rfl fX3_27 rfl rfl (by omega) (by first | rfl | assumption) (by first | exact hW _ _ _ (by omega) rfl | assumption) ?_
      refine wp_getI (t := 5) (ji := 2) rfl fX3_63 rfl rfl (by omega) (by first | rfl | assumption) ?_
      refine wp_icmp_ge (t := 6) (tgt := 54) rfl (by decide) (by first | assumption | exact hI0 _ _ | exact zin_and _ _ | (unfold zin; omega) | (unfold zin at *; omega)) (by first | assumption | exact hI0 _ _ | exact zin_and _ _ | (unfold zin; omega) | (unfold zin at *; omega)) (fun h10 => ?_) (fun h10 => ?_)
      · exact absurd h10 (by omega)
      · refine wp_aload_n (t := 7) rfl rfl ?_
        refine wp_getR (t := 8) (ji := 5) rfl fX3_24 rfl rfl (by omega) (by first | rfl | assumption) (by first | exact hW _ _ _ (by omega) rfl | assumption) ?_
        refine wp_iload_n (t := 9) rfl rfl ?_
        refine wp_iaload (t := 10) rfl (by omega) (by first | rfl | assumption) (by omega) (by omega) (by decide) ?_
        refine wp_iload_n (t := 11) rfl rfl ?_
        refine wp_ishr (t := 12) rfl ?_
        refine wp_iconst (t := 13) rfl ?_
        refine wp_iand (t := 14) rfl ?_
        refine wp_iconst (t := 15) rfl ?_
        refine wp_icmp_ne (t := 16) (tgt := 48) rfl (by decide) (by first | assumption | exact hI0 _ _ | exact zin_and _ _ | (unfold zin; omega) | (unfold zin at *; omega)) (by first | assumption | exact hI0 _ _ | exact zin_and _ _ | (unfold zin; omega) | (unfold zin at *; omega)) (fun h24 => ?_) (fun h24 => ?_)
        · refine wp_iinc (t := 30) rfl rfl (by decide) rfl ?_
          refine wp_goto (t := 31) (tgt := 2) rfl (by decide) ?_
          refine ih (a + 1) x (by omega) (by omega) (by omega) (fun i g0 g1 => ?_)
          by_cases hia : i = a
          · subst hia
            first
              | (have e1 : zbt (I (p + 5) c) i = false := decide_eq_false h24
                 rw [e1, Bool.false_and])
              | (rw [decide_eq_false (show ¬ ¬ 0 < I (p + 2) i by omega), decide_eq_false (show ¬ t < I (p + 4) i by omega)]
                 simp)
          · exact hs i g0 (by omega)
        · refine wp_aload_n (t := 17) rfl rfl ?_
          refine wp_getR (t := 18) (ji := 2) rfl fX3_15 rfl rfl (by omega) (by first | rfl | assumption) (by first | exact hW _ _ _ (by omega) rfl | assumption) ?_
          refine wp_iload_n (t := 19) rfl rfl ?_
          refine wp_iaload (t := 20) rfl (by omega) (by first | rfl | assumption) (by omega) (by omega) (by decide) ?_
          refine wp_if_eq (t := 21) (tgt := 46) rfl (by decide) (by first | assumption | exact hI0 _ _ | exact zin_and _ _ | (unfold zin; omega) | (unfold zin at *; omega)) (fun h33 => ?_) (fun h33 => ?_)
          · have e1 : zbt (I (p + 5) c) a = true := decide_eq_true (by simpa using h24)
            refine wp_iload_n (t := 28) rfl rfl ?_
            refine wp_ireturn (t := 29) rfl rfl ?_
            refine ⟨_, rfl, (zfirst_some h0 (show a < ((I 34 2).toNat : Int) by omega) ?_ hs).symm, rfl, rfl⟩
            show (zbt (I (p + 5) c) a && (decide (¬ 0 < I (p + 2) a) || decide (t < I (p + 4) a))) = true
            rw [e1]
            simp
            omega
          · refine wp_aload_n (t := 22) rfl rfl ?_
            refine wp_getR (t := 23) (ji := 4) rfl fX3_21 rfl rfl (by omega) (by first | rfl | assumption) (by first | exact hW _ _ _ (by omega) rfl | assumption) ?_
            refine wp_iload_n (t := 24) rfl rfl ?_
            refine wp_iaload (t := 25) rfl (by omega) (by first | rfl | assumption) (by omega) (by omega) (by decide) ?_
            refine wp_iload_n (t := 26) rfl rfl ?_
            refine wp_icmp_le (t := 27) (tgt := 48) rfl (by decide) (by first | assumption | exact hI0 _ _ | exact zin_and _ _ | (unfold zin; omega) | (unfold zin at *; omega)) (by first | assumption | exact hI0 _ _ | exact zin_and _ _ | (unfold zin; omega) | (unfold zin at *; omega)) (fun h43 => ?_) (fun h43 => ?_)
            · refine wp_iinc (t := 30) rfl rfl (by decide) rfl ?_
              refine wp_goto (t := 31) (tgt := 2) rfl (by decide) ?_
              refine ih (a + 1) x (by omega) (by omega) (by omega) (fun i g0 g1 => ?_)
              by_cases hia : i = a
              · subst hia
                first
                  | (have e1 : zbt (I (p + 5) c) i = false := decide_eq_false h24
                     rw [e1, Bool.false_and])
                  | (rw [decide_eq_false (show ¬ ¬ 0 < I (p + 2) i by omega), decide_eq_false (show ¬ t < I (p + 4) i by omega)]
                     simp)
              · exact hs i g0 (by omega)
            · have e1 : zbt (I (p + 5) c) a = true := decide_eq_true (by simpa using h24)
              refine wp_iload_n (t := 28) rfl rfl ?_
              refine wp_ireturn (t := 29) rfl rfl ?_
              refine ⟨_, rfl, (zfirst_some h0 (show a < ((I 34 2).toNat : Int) by omega) ?_ hs).symm, rfl, rfl⟩
              show (zbt (I (p + 5) c) a && (decide (¬ 0 < I (p + 2) a) || decide (t < I (p + 4) a))) = true
              rw [e1]
              simp
              omega
  refine wp_ls (ls' := [some (zR p), some (zI c), some (zI t), none]) rfl ?_
  refine wp_iconst (t := 0) rfl ?_
  refine wp_istore_n (t := 1) rfl (by decide) rfl ?_
  exact key _ 0 none (by omega) (by omega) rfl (fun i g0 g1 => absurd g1 (by omega))
set_option maxHeartbeats 4000000 in
set_option maxRecDepth 100000 in
theorem c_X3_begunBehind {G : zG} {d n : Nat} {I : zMem} {R : zRef} {p : Nat} {c t : Int} (hp : p = 64 ∨ p = 86) (hW : zWir n R) (hn : 115 ≤ n) (hch : zCh I) (hpl : zPl I p) (hc : 0 ≤ c ∧ c < 6) (ht : zin t) : MT G mX3_begunBehind d 0 0 [zR p, zI c, zI t] n I R (zP1 (fun r I' R' => r = sBeg (cS I p) c t ∧ I' = I ∧ R' = R)) := by
  refine MT.of (by decide +kernel) tX3_begunBehind_ok (Nat.le_of_ble_eq_true rfl) (fun hI0 => ?_)
  obtain ⟨hl0, hl1, hl2, hl3, hl4, hl5, hp1⟩ := zpl hp
  obtain ⟨hr0, hr1, hr2, hr3, hr4, hr5⟩ := zpr hp hW hn
  have hco := hch.1
  have key : ∀ (m : Nat) (a : Int), 0 ≤ a → a ≤ I 34 2 → (I 34 2 - a).toNat = m → (∀ i : Int, 0 ≤ i → i < a → (zbt (I (p + 5) i) c && (decide (0 < I (p + 2) i) && decide (I (p + 3) i < t))) = false) → WP G mX3_begunBehind d 0 0 0 0 2 [some (zR p), some (zI c), some (zI t), some (zI a)] [] n I R (zP1 (fun r I' R' => r = sBeg (cS I p) c t ∧ I' = I ∧ R' = R)) := by
    intro m
    induction m with
    | zero =>
      intro a h0 h1 hm hs
      refine wp_iload_n (t := 2) rfl rfl ?_
      refine wp_aload_n (t := 3) rfl rfl ?_
      refine wp_getR (t := 4) (ji := 0) rfl fX3_27 rfl rfl (by omega) (by first | rfl | assumption) (by first | exact hW _ _ _ (by omega) rfl | assumption) ?_
      refine wp_getI (t := 5) (ji := 2) rfl fX3_63 rfl rfl (by omega) (by first | rfl | assumption) ?_
      refine wp_icmp_ge (t := 6) (tgt := 54) rfl (by decide) (by first | assumption | exact hI0 _ _ | exact zin_and _ _ | (unfold zin; omega) | (unfold zin at *; omega)) (by first | assumption | exact hI0 _ _ | exact zin_and _ _ | (unfold zin; omega) | (unfold zin at *; omega)) (fun h10 => ?_) (fun h10 => ?_)
      · refine wp_bipush (t := 32) rfl (by decide) ?_
        refine wp_ireturn (t := 33) rfl rfl ?_
        exact ⟨_, rfl, (zfirst_none (fun i g0 g1 => hs i g0 (by have : i < ((I 34 2).toNat : Int) := g1; omega))).symm, rfl, rfl⟩
      · exact absurd h10 (by omega)
    | succ m ih =>
      intro a h0 h1 hm hs
      refine wp_iload_n (t := 2) rfl rfl ?_
      refine wp_aload_n (t := 3) rfl rfl ?_
      refine wp_getR (t := 4) (ji := 0) rfl fX3_27 rfl rfl (by omega) (by first | rfl | assumption) (by first | exact hW _ _ _ (by omega) rfl | assumption) ?_
      refine wp_getI (t := 5) (ji := 2) rfl fX3_63 rfl rfl (by omega) (by first | rfl | assumption) ?_
      refine wp_icmp_ge (t := 6) (tgt := 54) rfl (by decide) (by first | assumption | exact hI0 _ _ | exact zin_and _ _ | (unfold zin; omega) | (unfold zin at *; omega)) (by first | assumption | exact hI0 _ _ | exact zin_and _ _ | (unfold zin; omega) | (unfold zin at *; omega)) (fun h10 => ?_) (fun h10 => ?_)
      · exact absurd h10 (by omega)
      · refine wp_aload_n (t := 7) rfl rfl ?_
        refine wp_getR (t := 8) (ji := 5) rfl fX3_24 rfl rfl (by omega) (by first | rfl | assumption) (by first | exact hW _ _ _ (by omega) rfl | assumption) ?_
        refine wp_iload_n (t := 9) rfl rfl ?_
        refine wp_iaload (t := 10) rfl (by omega) (by first | rfl | assumption) (by omega) (by omega) (by decide) ?_
        refine wp_iload_n (t := 11) rfl rfl ?_
        refine wp_ishr (t := 12) rfl ?_
        refine wp_iconst (t := 13) rfl ?_
        refine wp_iand (t := 14) rfl ?_
        refine wp_iconst (t := 15) rfl ?_
        refine wp_icmp_ne (t := 16) (tgt := 48) rfl (by decide) (by first | assumption | exact hI0 _ _ | exact zin_and _ _ | (unfold zin; omega) | (unfold zin at *; omega)) (by first | assumption | exact hI0 _ _ | exact zin_and _ _ | (unfold zin; omega) | (unfold zin at *; omega)) (fun h24 => ?_) (fun h24 => ?_)
        · refine wp_iinc (t := 30) rfl rfl (by decide) rfl ?_
          refine wp_goto (t := 31) (tgt := 2) rfl (by decide) ?_
          refine ih (a + 1) (by omega) (by omega) (by omega) (fun i g0 g1 => ?_)
          by_cases hia : i = a
          · subst hia
            first
              | (have e1 : zbt (I (p + 5) i) c = false := decide_eq_false h24
                 rw [e1, Bool.false_and])
              | (rw [decide_eq_false (show ¬ 0 < I (p + 2) i by omega)]
                 simp)
              | (rw [decide_eq_false (show ¬ I (p + 3) i < t by omega)]
                 simp)
          · exact hs i g0 (by omega)
        · refine wp_aload_n (t := 17) rfl rfl ?_
          refine wp_getR (t := 18) (ji := 2) rfl fX3_15 rfl rfl (by omega) (by first | rfl | assumption) (by first | exact hW _ _ _ (by omega) rfl | assumption) ?_
          refine wp_iload_n (t := 19) rfl rfl ?_
          refine wp_iaload (t := 20) rfl (by omega) (by first | rfl | assumption) (by omega) (by omega) (by decide) ?_
          refine wp_if_le (t := 21) (tgt := 48) rfl (by decide) (by first | assumption | exact hI0 _ _ | exact zin_and _ _ | (unfold zin; omega) | (unfold zin at *; omega)) (fun h33 => ?_) (fun h33 => ?_)
          · refine wp_iinc (t := 30) rfl rfl (by decide) rfl ?_
            refine wp_goto (t := 31) (tgt := 2) rfl (by decide) ?_
            refine ih (a + 1) (by omega) (by omega) (by omega) (fun i g0 g1 => ?_)
            by_cases hia : i = a
            · subst hia
              first
                | (have e1 : zbt (I (p + 5) i) c = false := decide_eq_false h24
                   rw [e1, Bool.false_and])
                | (rw [decide_eq_false (show ¬ 0 < I (p + 2) i by omega)]
                   simp)
                | (rw [decide_eq_false (show ¬ I (p + 3) i < t by omega)]
                   simp)
            · exact hs i g0 (by omega)
          · refine wp_aload_n (t := 22) rfl rfl ?_
            refine wp_getR (t := 23) (ji := 3) rfl fX3_18 rfl rfl (by omega) (by first | rfl | assumption) (by first | exact hW _ _ _ (by omega) rfl | assumption) ?_
            refine wp_iload_n (t := 24) rfl rfl ?_
            refine wp_iaload (t := 25) rfl (by omega) (by first | rfl | assumption) (by omega) (by omega) (by decide) ?_
            refine wp_iload_n (t := 26) rfl rfl ?_
            refine wp_icmp_ge (t := 27) (tgt := 48) rfl (by decide) (by first | assumption | exact hI0 _ _ | exact zin_and _ _ | (unfold zin; omega) | (unfold zin at *; omega)) (by first | assumption | exact hI0 _ _ | exact zin_and _ _ | (unfold zin; omega) | (unfold zin at *; omega)) (fun h43 => ?_) (fun h43 => ?_)
            · refine wp_iinc (t := 30) rfl rfl (by decide) rfl ?_
              refine wp_goto (t := 31) (tgt := 2) rfl (by decide) ?_
              refine ih (a + 1) (by omega) (by omega) (by omega) (fun i g0 g1 => ?_)
              by_cases hia : i = a
              · subst hia
                first
                  | (have e1 : zbt (I (p + 5) i) c = false := decide_eq_false h24
                     rw [e1, Bool.false_and])
                  | (rw [decide_eq_false (show ¬ 0 < I (p + 2) i by omega)]
                     simp)
                  | (rw [decide_eq_false (show ¬ I (p + 3) i < t by omega)]
                     simp)
              · exact hs i g0 (by omega)
            · have e1 : zbt (I (p + 5) a) c = true := decide_eq_true (by simpa using h24)
              refine wp_iload_n (t := 28) rfl rfl ?_
              refine wp_ireturn (t := 29) rfl rfl ?_
              refine ⟨_, rfl, (zfirst_some h0 (show a < ((I 34 2).toNat : Int) by omega) ?_ hs).symm, rfl, rfl⟩
              show (zbt (I (p + 5) a) c && (decide (0 < I (p + 2) a) && decide (I (p + 3) a < t))) = true
              rw [e1]
              simp
              omega
  refine wp_ls (ls' := [some (zR p), some (zI c), some (zI t), none]) rfl ?_
  refine wp_iconst (t := 0) rfl ?_
  refine wp_istore_n (t := 1) rfl (by decide) rfl ?_
  exact key _ 0 (by omega) (by omega) rfl (fun i g0 g1 => absurd g1 (by omega))
set_option maxHeartbeats 4000000 in
set_option maxRecDepth 100000 in
theorem c_X3_firstOver {G : zG} {d n : Nat} {I : zMem} {R : zRef} {p : Nat} {what most t en : Int} (hp : p = 64 ∨ p = 86) (hW : zWir n R) (hn : 115 ≤ n) (hch : zCh I) (hpl : zPl I p) (h01 : what = 0 ∨ what = 1) (hm : zin most) (ht : 0 ≤ t ∧ t ≤ 2000000) (hen : t < en ∧ en ≤ 2000000) : MT G mX3_firstOver (d + 1) 0 0 [zR p, zI what, zI most, zI t, zI en] n I R (zP1 (fun r I' R' => r = sOver (cS I p) what most t en ∧ I' = I ∧ R' = R)) := by
  refine MT.of (by decide +kernel) tX3_firstOver_ok (Nat.le_of_ble_eq_true rfl) (fun hI0 => ?_)
  obtain ⟨hl0, hl1, hl2, hl3, hl4, hl5, hp1⟩ := zpl hp
  obtain ⟨hr0, hr1, hr2, hr3, hr4, hr5⟩ := zpr hp hW hn
  have hco := hch.1
  obtain ⟨f1, f2, f3, f4, f5, f6⟩ := cS_facts hch hpl
  have hub : ∀ s, zin (sUse (cS I p) what s) := fun s => by
    have := sUse_b (S := cS I p) (what := what) (t := s) f2 f3 f4 (by omega)
    unfold zin
    omega
  have key : ∀ (m : Nat) (a f : Int) (x7 x8 : Option zV), 0 ≤ a → a ≤ I 34 2 → (I 34 2 - a).toNat = m → sUse (cS I p) what t ≤ most → ((f = -4 ∧ ∀ c : Int, 0 ≤ c → c < a → 0 < I (p + 2) c → t < I (p + 3) c → I (p + 3) c < en → sUse (cS I p) what (I (p + 3) c) ≤ most) ∨ (t < f ∧ f < en ∧ most < sUse (cS I p) what f ∧ ∀ c : Int, 0 ≤ c → c < a → 0 < I (p + 2) c → t < I (p + 3) c → I (p + 3) c < en → most < sUse (cS I p) what (I (p + 3) c) → f ≤ I (p + 3) c)) →
      WP G mX3_firstOver (d + 1) 0 0 0 0 19 [some (zR p), some (zI what), some (zI most), some (zI t), some (zI en), some (zI f), some (zI a), x7, x8] [] n I R (zP1 (fun r I' R' => r = sOver (cS I p) what most t en ∧ I' = I ∧ R' = R)) := by
    intro m
    induction m with
    | zero =>
      intro a f x7 x8 h0 h1 hmm hut hs
      refine wp_iload (t := 12) rfl rfl ?_
      refine wp_aload_n (t := 13) rfl rfl ?_
      refine wp_getR (t := 14) (ji := 0) rfl fX3_27 rfl rfl (by omega) (by first | rfl | assumption) (by first | exact hW _ _ _ (by omega) rfl | assumption) ?_
      refine wp_getI (t := 15) (ji := 2) rfl fX3_63 rfl rfl (by omega) (by first | rfl | assumption) ?_
      refine wp_icmp_ge (t := 16) (tgt := 110) rfl (by decide) (by first | assumption | exact hI0 _ _ | exact zin_and _ _ | (unfold zin; omega) | (unfold zin at *; omega)) (by first | assumption | exact hI0 _ _ | exact zin_and _ _ | (unfold zin; omega) | (unfold zin at *; omega)) (fun h28 => ?_) (fun h28 => ?_)
      · refine wp_iload (t := 55) rfl rfl ?_
        refine wp_ireturn (t := 56) rfl rfl ?_
        refine ⟨_, rfl, sOver_cand f1 h01 ht.1 hut ?_, rfl, rfl⟩
        have ea : a = I 34 2 := by omega
        subst ea
        exact hs
      · exact absurd h28 (by omega)
    | succ m ih =>
      intro a f x7 x8 h0 h1 hmm hut hs
      refine wp_iload (t := 12) rfl rfl ?_
      refine wp_aload_n (t := 13) rfl rfl ?_
      refine wp_getR (t := 14) (ji := 0) rfl fX3_27 rfl rfl (by omega) (by first | rfl | assumption) (by first | exact hW _ _ _ (by omega) rfl | assumption) ?_
      refine wp_getI (t := 15) (ji := 2) rfl fX3_63 rfl rfl (by omega) (by first | rfl | assumption) ?_
      refine wp_icmp_ge (t := 16) (tgt := 110) rfl (by decide) (by first | assumption | exact hI0 _ _ | exact zin_and _ _ | (unfold zin; omega) | (unfold zin at *; omega)) (by first | assumption | exact hI0 _ _ | exact zin_and _ _ | (unfold zin; omega) | (unfold zin at *; omega)) (fun h28 => ?_) (fun h28 => ?_)
      · exact absurd h28 (by omega)
      · refine wp_aload_n (t := 17) rfl rfl ?_
        refine wp_getR (t := 18) (ji := 3) rfl fX3_18 rfl rfl (by omega) (by first | rfl | assumption) (by first | exact hW _ _ _ (by omega) rfl | assumption) ?_
        refine wp_iload (t := 19) rfl rfl ?_
        refine wp_iaload (t := 20) rfl (by omega) (by first | rfl | assumption) (by omega) (by omega) (by decide) ?_
        refine wp_istore (t := 21) rfl (by decide) rfl ?_
        refine wp_aload_n (t := 22) rfl rfl ?_
        refine wp_getR (t := 23) (ji := 2) rfl fX3_15 rfl rfl (by omega) (by first | rfl | assumption) (by first | exact hW _ _ _ (by omega) rfl | assumption) ?_
        refine wp_iload (t := 24) rfl rfl ?_
        refine wp_iaload (t := 25) rfl (by omega) (by first | rfl | assumption) (by omega) (by omega) (by decide) ?_
        refine wp_if_le (t := 26) (tgt := 81) rfl (by decide) (by first | assumption | exact hI0 _ _ | exact zin_and _ _ | (unfold zin; omega) | (unfold zin at *; omega)) (fun h47 => ?_) (fun h47 => ?_)
        · refine wp_iconst (t := 41) rfl ?_
          refine wp_istore (t := 42) rfl (by decide) rfl ?_
          refine wp_iload (t := 43) rfl rfl ?_
          refine wp_if_eq (t := 44) (tgt := 104) rfl (by decide) (by first | assumption | exact hI0 _ _ | exact zin_and _ _ | (unfold zin; omega) | (unfold zin at *; omega)) (fun h86 => ?_) (fun h86 => ?_)
          · refine wp_iinc (t := 53) rfl rfl (by decide) rfl ?_
            refine wp_goto (t := 54) (tgt := 19) rfl (by decide) ?_
            refine ih (a + 1) _ _ _ (by omega) (by omega) (by omega) hut ?_
            rcases hs with ⟨e, hs⟩ | ⟨g1, g2, g3, hs⟩
            · first
                | exact Or.inl ⟨e, fun c c0 c1 c2 c3 c4 => by
                    by_cases hca : c = a
                    · subst hca
                      omega
                    · exact hs c c0 (by omega) c2 c3 c4⟩
                | exact Or.inr ⟨by omega, by omega, by omega, fun c c0 c1 c2 c3 c4 c5 => by
                    by_cases hca : c = a
                    · subst hca
                      omega
                    · have := hs c c0 (by omega) c2 c3 c4
                      omega⟩
            · first
                | exact Or.inr ⟨g1, g2, g3, fun c c0 c1 c2 c3 c4 c5 => by
                    by_cases hca : c = a
                    · subst hca
                      omega
                    · exact hs c c0 (by omega) c2 c3 c4 c5⟩
                | exact Or.inr ⟨by omega, by omega, by omega, fun c c0 c1 c2 c3 c4 c5 => by
                    by_cases hca : c = a
                    · subst hca
                      omega
                    · have := hs c c0 (by omega) c2 c3 c4 c5
                      omega⟩
          · refine wp_aload_n (t := 45) rfl rfl ?_
            refine wp_iload_n (t := 46) rfl rfl ?_
            refine wp_iload (t := 47) rfl rfl ?_
            refine wp_vi (ci := 3) (c_X3_used hp hW hn ⟨by omega, by omega⟩ (by unfold zin; omega) (hI0 _ _)) (t := 48) rfl kX3_89 rfl rfl (by omega) (by first | rfl | assumption) ⟨_, _, rfl⟩ (Nat.le_of_ble_eq_true rfl) ⟨Nat.le_refl _, Nat.le_refl _⟩ (fun r93 I93 R93 c93 => ?_)
            refine wp_canon (fun hI1 => ?_)
            obtain ⟨rfl, rfl, rfl⟩ := c93
            refine wp_iload_n (t := 49) rfl rfl ?_
            refine wp_icmp_le (t := 50) (tgt := 104) rfl (by decide) (hub _) (by first | assumption | exact hI1 _ _ | exact hI0 _ _ | exact zin_and _ _ | (unfold zin; omega) | (unfold zin at *; omega)) (fun h97 => ?_) (fun h97 => ?_)
            · refine wp_iinc (t := 53) rfl rfl (by decide) rfl ?_
              refine wp_goto (t := 54) (tgt := 19) rfl (by decide) ?_
              refine ih (a + 1) _ _ _ (by omega) (by omega) (by omega) hut ?_
              rcases hs with ⟨e, hs⟩ | ⟨g1, g2, g3, hs⟩
              · first
                  | exact Or.inl ⟨e, fun c c0 c1 c2 c3 c4 => by
                      by_cases hca : c = a
                      · subst hca
                        omega
                      · exact hs c c0 (by omega) c2 c3 c4⟩
                  | exact Or.inr ⟨by omega, by omega, by omega, fun c c0 c1 c2 c3 c4 c5 => by
                      by_cases hca : c = a
                      · subst hca
                        omega
                      · have := hs c c0 (by omega) c2 c3 c4
                        omega⟩
              · first
                  | exact Or.inr ⟨g1, g2, g3, fun c c0 c1 c2 c3 c4 c5 => by
                      by_cases hca : c = a
                      · subst hca
                        omega
                      · exact hs c c0 (by omega) c2 c3 c4 c5⟩
                  | exact Or.inr ⟨by omega, by omega, by omega, fun c c0 c1 c2 c3 c4 c5 => by
                      by_cases hca : c = a
                      · subst hca
                        omega
                      · have := hs c c0 (by omega) c2 c3 c4 c5
                        omega⟩
            · refine wp_iload (t := 51) rfl rfl ?_
              refine wp_istore (t := 52) rfl (by decide) rfl ?_
              refine wp_iinc (t := 53) rfl rfl (by decide) rfl ?_
              refine wp_goto (t := 54) (tgt := 19) rfl (by decide) ?_
              refine ih (a + 1) _ _ _ (by omega) (by omega) (by omega) hut ?_
              rcases hs with ⟨e, hs⟩ | ⟨g1, g2, g3, hs⟩
              · first
                  | exact Or.inl ⟨e, fun c c0 c1 c2 c3 c4 => by
                      by_cases hca : c = a
                      · subst hca
                        omega
                      · exact hs c c0 (by omega) c2 c3 c4⟩
                  | exact Or.inr ⟨by omega, by omega, by omega, fun c c0 c1 c2 c3 c4 c5 => by
                      by_cases hca : c = a
                      · subst hca
                        omega
                      · have := hs c c0 (by omega) c2 c3 c4
                        omega⟩
              · first
                  | exact Or.inr ⟨g1, g2, g3, fun c c0 c1 c2 c3 c4 c5 => by
                      by_cases hca : c = a
                      · subst hca
                        omega
                      · exact hs c c0 (by omega) c2 c3 c4 c5⟩
                  | exact Or.inr ⟨by omega, by omega, by omega, fun c c0 c1 c2 c3 c4 c5 => by
                      by_cases hca : c = a
                      · subst hca
                        omega
                      · have := hs c c0 (by omega) c2 c3 c4 c5
                        omega⟩
        · refine wp_iload (t := 27) rfl rfl ?_
          refine wp_iload_n (t := 28) rfl rfl ?_
          refine wp_icmp_le (t := 29) (tgt := 81) rfl (by decide) (by first | assumption | exact hI0 _ _ | exact zin_and _ _ | (unfold zin; omega) | (unfold zin at *; omega)) (by first | assumption | exact hI0 _ _ | exact zin_and _ _ | (unfold zin; omega) | (unfold zin at *; omega)) (fun h53 => ?_) (fun h53 => ?_)
          · refine wp_iconst (t := 41) rfl ?_
            refine wp_istore (t := 42) rfl (by decide) rfl ?_
            refine wp_iload (t := 43) rfl rfl ?_
            refine wp_if_eq (t := 44) (tgt := 104) rfl (by decide) (by first | assumption | exact hI0 _ _ | exact zin_and _ _ | (unfold zin; omega) | (unfold zin at *; omega)) (fun h86 => ?_) (fun h86 => ?_)
            · refine wp_iinc (t := 53) rfl rfl (by decide) rfl ?_
              refine wp_goto (t := 54) (tgt := 19) rfl (by decide) ?_
              refine ih (a + 1) _ _ _ (by omega) (by omega) (by omega) hut ?_
              rcases hs with ⟨e, hs⟩ | ⟨g1, g2, g3, hs⟩
              · first
                  | exact Or.inl ⟨e, fun c c0 c1 c2 c3 c4 => by
                      by_cases hca : c = a
                      · subst hca
                        omega
                      · exact hs c c0 (by omega) c2 c3 c4⟩
                  | exact Or.inr ⟨by omega, by omega, by omega, fun c c0 c1 c2 c3 c4 c5 => by
                      by_cases hca : c = a
                      · subst hca
                        omega
                      · have := hs c c0 (by omega) c2 c3 c4
                        omega⟩
              · first
                  | exact Or.inr ⟨g1, g2, g3, fun c c0 c1 c2 c3 c4 c5 => by
                      by_cases hca : c = a
                      · subst hca
                        omega
                      · exact hs c c0 (by omega) c2 c3 c4 c5⟩
                  | exact Or.inr ⟨by omega, by omega, by omega, fun c c0 c1 c2 c3 c4 c5 => by
                      by_cases hca : c = a
                      · subst hca
                        omega
                      · have := hs c c0 (by omega) c2 c3 c4 c5
                        omega⟩
            · refine wp_aload_n (t := 45) rfl rfl ?_
              refine wp_iload_n (t := 46) rfl rfl ?_
              refine wp_iload (t := 47) rfl rfl ?_
              refine wp_vi (ci := 3) (c_X3_used hp hW hn ⟨by omega, by omega⟩ (by unfold zin; omega) (hI0 _ _)) (t := 48) rfl kX3_89 rfl rfl (by omega) (by first | rfl | assumption) ⟨_, _, rfl⟩ (Nat.le_of_ble_eq_true rfl) ⟨Nat.le_refl _, Nat.le_refl _⟩ (fun r93 I93 R93 c93 => ?_)
              refine wp_canon (fun hI1 => ?_)
              obtain ⟨rfl, rfl, rfl⟩ := c93
              refine wp_iload_n (t := 49) rfl rfl ?_
              refine wp_icmp_le (t := 50) (tgt := 104) rfl (by decide) (hub _) (by first | assumption | exact hI1 _ _ | exact hI0 _ _ | exact zin_and _ _ | (unfold zin; omega) | (unfold zin at *; omega)) (fun h97 => ?_) (fun h97 => ?_)
              · refine wp_iinc (t := 53) rfl rfl (by decide) rfl ?_
                refine wp_goto (t := 54) (tgt := 19) rfl (by decide) ?_
                refine ih (a + 1) _ _ _ (by omega) (by omega) (by omega) hut ?_
                rcases hs with ⟨e, hs⟩ | ⟨g1, g2, g3, hs⟩
                · first
                    | exact Or.inl ⟨e, fun c c0 c1 c2 c3 c4 => by
                        by_cases hca : c = a
                        · subst hca
                          omega
                        · exact hs c c0 (by omega) c2 c3 c4⟩
                    | exact Or.inr ⟨by omega, by omega, by omega, fun c c0 c1 c2 c3 c4 c5 => by
                        by_cases hca : c = a
                        · subst hca
                          omega
                        · have := hs c c0 (by omega) c2 c3 c4
                          omega⟩
                · first
                    | exact Or.inr ⟨g1, g2, g3, fun c c0 c1 c2 c3 c4 c5 => by
                        by_cases hca : c = a
                        · subst hca
                          omega
                        · exact hs c c0 (by omega) c2 c3 c4 c5⟩
                    | exact Or.inr ⟨by omega, by omega, by omega, fun c c0 c1 c2 c3 c4 c5 => by
                        by_cases hca : c = a
                        · subst hca
                          omega
                        · have := hs c c0 (by omega) c2 c3 c4 c5
                          omega⟩
              · refine wp_iload (t := 51) rfl rfl ?_
                refine wp_istore (t := 52) rfl (by decide) rfl ?_
                refine wp_iinc (t := 53) rfl rfl (by decide) rfl ?_
                refine wp_goto (t := 54) (tgt := 19) rfl (by decide) ?_
                refine ih (a + 1) _ _ _ (by omega) (by omega) (by omega) hut ?_
                rcases hs with ⟨e, hs⟩ | ⟨g1, g2, g3, hs⟩
                · first
                    | exact Or.inl ⟨e, fun c c0 c1 c2 c3 c4 => by
                        by_cases hca : c = a
                        · subst hca
                          omega
                        · exact hs c c0 (by omega) c2 c3 c4⟩
                    | exact Or.inr ⟨by omega, by omega, by omega, fun c c0 c1 c2 c3 c4 c5 => by
                        by_cases hca : c = a
                        · subst hca
                          omega
                        · have := hs c c0 (by omega) c2 c3 c4
                          omega⟩
                · first
                    | exact Or.inr ⟨g1, g2, g3, fun c c0 c1 c2 c3 c4 c5 => by
                        by_cases hca : c = a
                        · subst hca
                          omega
                        · exact hs c c0 (by omega) c2 c3 c4 c5⟩
                    | exact Or.inr ⟨by omega, by omega, by omega, fun c c0 c1 c2 c3 c4 c5 => by
                        by_cases hca : c = a
                        · subst hca
                          omega
                        · have := hs c c0 (by omega) c2 c3 c4 c5
                          omega⟩
          · refine wp_iload (t := 30) rfl rfl ?_
            refine wp_iload (t := 31) rfl rfl ?_
            refine wp_icmp_ge (t := 32) (tgt := 81) rfl (by decide) (by first | assumption | exact hI0 _ _ | exact zin_and _ _ | (unfold zin; omega) | (unfold zin at *; omega)) (by first | assumption | exact hI0 _ _ | exact zin_and _ _ | (unfold zin; omega) | (unfold zin at *; omega)) (fun h60 => ?_) (fun h60 => ?_)
            · refine wp_iconst (t := 41) rfl ?_
              refine wp_istore (t := 42) rfl (by decide) rfl ?_
              refine wp_iload (t := 43) rfl rfl ?_
              refine wp_if_eq (t := 44) (tgt := 104) rfl (by decide) (by first | assumption | exact hI0 _ _ | exact zin_and _ _ | (unfold zin; omega) | (unfold zin at *; omega)) (fun h86 => ?_) (fun h86 => ?_)
              · refine wp_iinc (t := 53) rfl rfl (by decide) rfl ?_
                refine wp_goto (t := 54) (tgt := 19) rfl (by decide) ?_
                refine ih (a + 1) _ _ _ (by omega) (by omega) (by omega) hut ?_
                rcases hs with ⟨e, hs⟩ | ⟨g1, g2, g3, hs⟩
                · first
                    | exact Or.inl ⟨e, fun c c0 c1 c2 c3 c4 => by
                        by_cases hca : c = a
                        · subst hca
                          omega
                        · exact hs c c0 (by omega) c2 c3 c4⟩
                    | exact Or.inr ⟨by omega, by omega, by omega, fun c c0 c1 c2 c3 c4 c5 => by
                        by_cases hca : c = a
                        · subst hca
                          omega
                        · have := hs c c0 (by omega) c2 c3 c4
                          omega⟩
                · first
                    | exact Or.inr ⟨g1, g2, g3, fun c c0 c1 c2 c3 c4 c5 => by
                        by_cases hca : c = a
                        · subst hca
                          omega
                        · exact hs c c0 (by omega) c2 c3 c4 c5⟩
                    | exact Or.inr ⟨by omega, by omega, by omega, fun c c0 c1 c2 c3 c4 c5 => by
                        by_cases hca : c = a
                        · subst hca
                          omega
                        · have := hs c c0 (by omega) c2 c3 c4 c5
                          omega⟩
              · refine wp_aload_n (t := 45) rfl rfl ?_
                refine wp_iload_n (t := 46) rfl rfl ?_
                refine wp_iload (t := 47) rfl rfl ?_
                refine wp_vi (ci := 3) (c_X3_used hp hW hn ⟨by omega, by omega⟩ (by unfold zin; omega) (hI0 _ _)) (t := 48) rfl kX3_89 rfl rfl (by omega) (by first | rfl | assumption) ⟨_, _, rfl⟩ (Nat.le_of_ble_eq_true rfl) ⟨Nat.le_refl _, Nat.le_refl _⟩ (fun r93 I93 R93 c93 => ?_)
                refine wp_canon (fun hI1 => ?_)
                obtain ⟨rfl, rfl, rfl⟩ := c93
                refine wp_iload_n (t := 49) rfl rfl ?_
                refine wp_icmp_le (t := 50) (tgt := 104) rfl (by decide) (hub _) (by first | assumption | exact hI1 _ _ | exact hI0 _ _ | exact zin_and _ _ | (unfold zin; omega) | (unfold zin at *; omega)) (fun h97 => ?_) (fun h97 => ?_)
                · refine wp_iinc (t := 53) rfl rfl (by decide) rfl ?_
                  refine wp_goto (t := 54) (tgt := 19) rfl (by decide) ?_
                  refine ih (a + 1) _ _ _ (by omega) (by omega) (by omega) hut ?_
                  rcases hs with ⟨e, hs⟩ | ⟨g1, g2, g3, hs⟩
                  · first
                      | exact Or.inl ⟨e, fun c c0 c1 c2 c3 c4 => by
                          by_cases hca : c = a
                          · subst hca
                            omega
                          · exact hs c c0 (by omega) c2 c3 c4⟩
                      | exact Or.inr ⟨by omega, by omega, by omega, fun c c0 c1 c2 c3 c4 c5 => by
                          by_cases hca : c = a
                          · subst hca
                            omega
                          · have := hs c c0 (by omega) c2 c3 c4
                            omega⟩
                  · first
                      | exact Or.inr ⟨g1, g2, g3, fun c c0 c1 c2 c3 c4 c5 => by
                          by_cases hca : c = a
                          · subst hca
                            omega
                          · exact hs c c0 (by omega) c2 c3 c4 c5⟩
                      | exact Or.inr ⟨by omega, by omega, by omega, fun c c0 c1 c2 c3 c4 c5 => by
                          by_cases hca : c = a
                          · subst hca
                            omega
                          · have := hs c c0 (by omega) c2 c3 c4 c5
                            omega⟩
                · refine wp_iload (t := 51) rfl rfl ?_
                  refine wp_istore (t := 52) rfl (by decide) rfl ?_
                  refine wp_iinc (t := 53) rfl rfl (by decide) rfl ?_
                  refine wp_goto (t := 54) (tgt := 19) rfl (by decide) ?_
                  refine ih (a + 1) _ _ _ (by omega) (by omega) (by omega) hut ?_
                  rcases hs with ⟨e, hs⟩ | ⟨g1, g2, g3, hs⟩
                  · first
                      | exact Or.inl ⟨e, fun c c0 c1 c2 c3 c4 => by
                          by_cases hca : c = a
                          · subst hca
                            omega
                          · exact hs c c0 (by omega) c2 c3 c4⟩
                      | exact Or.inr ⟨by omega, by omega, by omega, fun c c0 c1 c2 c3 c4 c5 => by
                          by_cases hca : c = a
                          · subst hca
                            omega
                          · have := hs c c0 (by omega) c2 c3 c4
                            omega⟩
                  · first
                      | exact Or.inr ⟨g1, g2, g3, fun c c0 c1 c2 c3 c4 c5 => by
                          by_cases hca : c = a
                          · subst hca
                            omega
                          · exact hs c c0 (by omega) c2 c3 c4 c5⟩
                      | exact Or.inr ⟨by omega, by omega, by omega, fun c c0 c1 c2 c3 c4 c5 => by
                          by_cases hca : c = a
                          · subst hca
                            omega
                          · have := hs c c0 (by omega) c2 c3 c4 c5
                            omega⟩
            · refine wp_iload (t := 33) rfl rfl ?_
              refine wp_bipush (t := 34) rfl (by decide) ?_
              refine wp_icmp_eq (t := 35) (tgt := 77) rfl (by decide) (by first | assumption | exact hI0 _ _ | exact zin_and _ _ | (unfold zin; omega) | (unfold zin at *; omega)) (by first | assumption | exact hI0 _ _ | exact zin_and _ _ | (unfold zin; omega) | (unfold zin at *; omega)) (fun h67 => ?_) (fun h67 => ?_)
              · refine wp_iconst (t := 39) rfl ?_
                refine wp_goto (t := 40) (tgt := 82) rfl (by decide) ?_
                refine wp_istore (t := 42) rfl (by decide) rfl ?_
                refine wp_iload (t := 43) rfl rfl ?_
                refine wp_if_eq (t := 44) (tgt := 104) rfl (by decide) (by first | assumption | exact hI0 _ _ | exact zin_and _ _ | (unfold zin; omega) | (unfold zin at *; omega)) (fun h86 => ?_) (fun h86 => ?_)
                · refine wp_iinc (t := 53) rfl rfl (by decide) rfl ?_
                  refine wp_goto (t := 54) (tgt := 19) rfl (by decide) ?_
                  refine ih (a + 1) _ _ _ (by omega) (by omega) (by omega) hut ?_
                  rcases hs with ⟨e, hs⟩ | ⟨g1, g2, g3, hs⟩
                  · first
                      | exact Or.inl ⟨e, fun c c0 c1 c2 c3 c4 => by
                          by_cases hca : c = a
                          · subst hca
                            omega
                          · exact hs c c0 (by omega) c2 c3 c4⟩
                      | exact Or.inr ⟨by omega, by omega, by omega, fun c c0 c1 c2 c3 c4 c5 => by
                          by_cases hca : c = a
                          · subst hca
                            omega
                          · have := hs c c0 (by omega) c2 c3 c4
                            omega⟩
                  · first
                      | exact Or.inr ⟨g1, g2, g3, fun c c0 c1 c2 c3 c4 c5 => by
                          by_cases hca : c = a
                          · subst hca
                            omega
                          · exact hs c c0 (by omega) c2 c3 c4 c5⟩
                      | exact Or.inr ⟨by omega, by omega, by omega, fun c c0 c1 c2 c3 c4 c5 => by
                          by_cases hca : c = a
                          · subst hca
                            omega
                          · have := hs c c0 (by omega) c2 c3 c4 c5
                            omega⟩
                · refine wp_aload_n (t := 45) rfl rfl ?_
                  refine wp_iload_n (t := 46) rfl rfl ?_
                  refine wp_iload (t := 47) rfl rfl ?_
                  refine wp_vi (ci := 3) (c_X3_used hp hW hn ⟨by omega, by omega⟩ (by unfold zin; omega) (hI0 _ _)) (t := 48) rfl kX3_89 rfl rfl (by omega) (by first | rfl | assumption) ⟨_, _, rfl⟩ (Nat.le_of_ble_eq_true rfl) ⟨Nat.le_refl _, Nat.le_refl _⟩ (fun r93 I93 R93 c93 => ?_)
                  refine wp_canon (fun hI1 => ?_)
                  obtain ⟨rfl, rfl, rfl⟩ := c93
                  refine wp_iload_n (t := 49) rfl rfl ?_
                  refine wp_icmp_le (t := 50) (tgt := 104) rfl (by decide) (hub _) (by first | assumption | exact hI1 _ _ | exact hI0 _ _ | exact zin_and _ _ | (unfold zin; omega) | (unfold zin at *; omega)) (fun h97 => ?_) (fun h97 => ?_)
                  · refine wp_iinc (t := 53) rfl rfl (by decide) rfl ?_
                    refine wp_goto (t := 54) (tgt := 19) rfl (by decide) ?_
                    refine ih (a + 1) _ _ _ (by omega) (by omega) (by omega) hut ?_
                    rcases hs with ⟨e, hs⟩ | ⟨g1, g2, g3, hs⟩
                    · first
                        | exact Or.inl ⟨e, fun c c0 c1 c2 c3 c4 => by
                            by_cases hca : c = a
                            · subst hca
                              omega
                            · exact hs c c0 (by omega) c2 c3 c4⟩
                        | exact Or.inr ⟨by omega, by omega, by omega, fun c c0 c1 c2 c3 c4 c5 => by
                            by_cases hca : c = a
                            · subst hca
                              omega
                            · have := hs c c0 (by omega) c2 c3 c4
                              omega⟩
                    · first
                        | exact Or.inr ⟨g1, g2, g3, fun c c0 c1 c2 c3 c4 c5 => by
                            by_cases hca : c = a
                            · subst hca
                              omega
                            · exact hs c c0 (by omega) c2 c3 c4 c5⟩
                        | exact Or.inr ⟨by omega, by omega, by omega, fun c c0 c1 c2 c3 c4 c5 => by
                            by_cases hca : c = a
                            · subst hca
                              omega
                            · have := hs c c0 (by omega) c2 c3 c4 c5
                              omega⟩
                  · refine wp_iload (t := 51) rfl rfl ?_
                    refine wp_istore (t := 52) rfl (by decide) rfl ?_
                    refine wp_iinc (t := 53) rfl rfl (by decide) rfl ?_
                    refine wp_goto (t := 54) (tgt := 19) rfl (by decide) ?_
                    refine ih (a + 1) _ _ _ (by omega) (by omega) (by omega) hut ?_
                    rcases hs with ⟨e, hs⟩ | ⟨g1, g2, g3, hs⟩
                    · first
                        | exact Or.inl ⟨e, fun c c0 c1 c2 c3 c4 => by
                            by_cases hca : c = a
                            · subst hca
                              omega
                            · exact hs c c0 (by omega) c2 c3 c4⟩
                        | exact Or.inr ⟨by omega, by omega, by omega, fun c c0 c1 c2 c3 c4 c5 => by
                            by_cases hca : c = a
                            · subst hca
                              omega
                            · have := hs c c0 (by omega) c2 c3 c4
                              omega⟩
                    · first
                        | exact Or.inr ⟨g1, g2, g3, fun c c0 c1 c2 c3 c4 c5 => by
                            by_cases hca : c = a
                            · subst hca
                              omega
                            · exact hs c c0 (by omega) c2 c3 c4 c5⟩
                        | exact Or.inr ⟨by omega, by omega, by omega, fun c c0 c1 c2 c3 c4 c5 => by
                            by_cases hca : c = a
                            · subst hca
                              omega
                            · have := hs c c0 (by omega) c2 c3 c4 c5
                              omega⟩
              · refine wp_iload (t := 36) rfl rfl ?_
                refine wp_iload (t := 37) rfl rfl ?_
                refine wp_icmp_ge (t := 38) (tgt := 81) rfl (by decide) (by first | assumption | exact hI0 _ _ | exact zin_and _ _ | (unfold zin; omega) | (unfold zin at *; omega)) (by first | assumption | exact hI0 _ _ | exact zin_and _ _ | (unfold zin; omega) | (unfold zin at *; omega)) (fun h74 => ?_) (fun h74 => ?_)
                · refine wp_iconst (t := 41) rfl ?_
                  refine wp_istore (t := 42) rfl (by decide) rfl ?_
                  refine wp_iload (t := 43) rfl rfl ?_
                  refine wp_if_eq (t := 44) (tgt := 104) rfl (by decide) (by first | assumption | exact hI0 _ _ | exact zin_and _ _ | (unfold zin; omega) | (unfold zin at *; omega)) (fun h86 => ?_) (fun h86 => ?_)
                  · refine wp_iinc (t := 53) rfl rfl (by decide) rfl ?_
                    refine wp_goto (t := 54) (tgt := 19) rfl (by decide) ?_
                    refine ih (a + 1) _ _ _ (by omega) (by omega) (by omega) hut ?_
                    rcases hs with ⟨e, hs⟩ | ⟨g1, g2, g3, hs⟩
                    · first
                        | exact Or.inl ⟨e, fun c c0 c1 c2 c3 c4 => by
                            by_cases hca : c = a
                            · subst hca
                              omega
                            · exact hs c c0 (by omega) c2 c3 c4⟩
                        | exact Or.inr ⟨by omega, by omega, by omega, fun c c0 c1 c2 c3 c4 c5 => by
                            by_cases hca : c = a
                            · subst hca
                              omega
                            · have := hs c c0 (by omega) c2 c3 c4
                              omega⟩
                    · first
                        | exact Or.inr ⟨g1, g2, g3, fun c c0 c1 c2 c3 c4 c5 => by
                            by_cases hca : c = a
                            · subst hca
                              omega
                            · exact hs c c0 (by omega) c2 c3 c4 c5⟩
                        | exact Or.inr ⟨by omega, by omega, by omega, fun c c0 c1 c2 c3 c4 c5 => by
                            by_cases hca : c = a
                            · subst hca
                              omega
                            · have := hs c c0 (by omega) c2 c3 c4 c5
                              omega⟩
                  · refine wp_aload_n (t := 45) rfl rfl ?_
                    refine wp_iload_n (t := 46) rfl rfl ?_
                    refine wp_iload (t := 47) rfl rfl ?_
                    refine wp_vi (ci := 3) (c_X3_used hp hW hn ⟨by omega, by omega⟩ (by unfold zin; omega) (hI0 _ _)) (t := 48) rfl kX3_89 rfl rfl (by omega) (by first | rfl | assumption) ⟨_, _, rfl⟩ (Nat.le_of_ble_eq_true rfl) ⟨Nat.le_refl _, Nat.le_refl _⟩ (fun r93 I93 R93 c93 => ?_)
                    refine wp_canon (fun hI1 => ?_)
                    obtain ⟨rfl, rfl, rfl⟩ := c93
                    refine wp_iload_n (t := 49) rfl rfl ?_
                    refine wp_icmp_le (t := 50) (tgt := 104) rfl (by decide) (hub _) (by first | assumption | exact hI1 _ _ | exact hI0 _ _ | exact zin_and _ _ | (unfold zin; omega) | (unfold zin at *; omega)) (fun h97 => ?_) (fun h97 => ?_)
                    · refine wp_iinc (t := 53) rfl rfl (by decide) rfl ?_
                      refine wp_goto (t := 54) (tgt := 19) rfl (by decide) ?_
                      refine ih (a + 1) _ _ _ (by omega) (by omega) (by omega) hut ?_
                      rcases hs with ⟨e, hs⟩ | ⟨g1, g2, g3, hs⟩
                      · first
                          | exact Or.inl ⟨e, fun c c0 c1 c2 c3 c4 => by
                              by_cases hca : c = a
                              · subst hca
                                omega
                              · exact hs c c0 (by omega) c2 c3 c4⟩
                          | exact Or.inr ⟨by omega, by omega, by omega, fun c c0 c1 c2 c3 c4 c5 => by
                              by_cases hca : c = a
                              · subst hca
                                omega
                              · have := hs c c0 (by omega) c2 c3 c4
                                omega⟩
                      · first
                          | exact Or.inr ⟨g1, g2, g3, fun c c0 c1 c2 c3 c4 c5 => by
                              by_cases hca : c = a
                              · subst hca
                                omega
                              · exact hs c c0 (by omega) c2 c3 c4 c5⟩
                          | exact Or.inr ⟨by omega, by omega, by omega, fun c c0 c1 c2 c3 c4 c5 => by
                              by_cases hca : c = a
                              · subst hca
                                omega
                              · have := hs c c0 (by omega) c2 c3 c4 c5
                                omega⟩
                    · refine wp_iload (t := 51) rfl rfl ?_
                      refine wp_istore (t := 52) rfl (by decide) rfl ?_
                      refine wp_iinc (t := 53) rfl rfl (by decide) rfl ?_
                      refine wp_goto (t := 54) (tgt := 19) rfl (by decide) ?_
                      refine ih (a + 1) _ _ _ (by omega) (by omega) (by omega) hut ?_
                      rcases hs with ⟨e, hs⟩ | ⟨g1, g2, g3, hs⟩
                      · first
                          | exact Or.inl ⟨e, fun c c0 c1 c2 c3 c4 => by
                              by_cases hca : c = a
                              · subst hca
                                omega
                              · exact hs c c0 (by omega) c2 c3 c4⟩
                          | exact Or.inr ⟨by omega, by omega, by omega, fun c c0 c1 c2 c3 c4 c5 => by
                              by_cases hca : c = a
                              · subst hca
                                omega
                              · have := hs c c0 (by omega) c2 c3 c4
                                omega⟩
                      · first
                          | exact Or.inr ⟨g1, g2, g3, fun c c0 c1 c2 c3 c4 c5 => by
                              by_cases hca : c = a
                              · subst hca
                                omega
                              · exact hs c c0 (by omega) c2 c3 c4 c5⟩
                          | exact Or.inr ⟨by omega, by omega, by omega, fun c c0 c1 c2 c3 c4 c5 => by
                              by_cases hca : c = a
                              · subst hca
                                omega
                              · have := hs c c0 (by omega) c2 c3 c4 c5
                                omega⟩
                · refine wp_iconst (t := 39) rfl ?_
                  refine wp_goto (t := 40) (tgt := 82) rfl (by decide) ?_
                  refine wp_istore (t := 42) rfl (by decide) rfl ?_
                  refine wp_iload (t := 43) rfl rfl ?_
                  refine wp_if_eq (t := 44) (tgt := 104) rfl (by decide) (by first | assumption | exact hI0 _ _ | exact zin_and _ _ | (unfold zin; omega) | (unfold zin at *; omega)) (fun h86 => ?_) (fun h86 => ?_)
                  · refine wp_iinc (t := 53) rfl rfl (by decide) rfl ?_
                    refine wp_goto (t := 54) (tgt := 19) rfl (by decide) ?_
                    refine ih (a + 1) _ _ _ (by omega) (by omega) (by omega) hut ?_
                    rcases hs with ⟨e, hs⟩ | ⟨g1, g2, g3, hs⟩
                    · first
                        | exact Or.inl ⟨e, fun c c0 c1 c2 c3 c4 => by
                            by_cases hca : c = a
                            · subst hca
                              omega
                            · exact hs c c0 (by omega) c2 c3 c4⟩
                        | exact Or.inr ⟨by omega, by omega, by omega, fun c c0 c1 c2 c3 c4 c5 => by
                            by_cases hca : c = a
                            · subst hca
                              omega
                            · have := hs c c0 (by omega) c2 c3 c4
                              omega⟩
                    · first
                        | exact Or.inr ⟨g1, g2, g3, fun c c0 c1 c2 c3 c4 c5 => by
                            by_cases hca : c = a
                            · subst hca
                              omega
                            · exact hs c c0 (by omega) c2 c3 c4 c5⟩
                        | exact Or.inr ⟨by omega, by omega, by omega, fun c c0 c1 c2 c3 c4 c5 => by
                            by_cases hca : c = a
                            · subst hca
                              omega
                            · have := hs c c0 (by omega) c2 c3 c4 c5
                              omega⟩
                  · refine wp_aload_n (t := 45) rfl rfl ?_
                    refine wp_iload_n (t := 46) rfl rfl ?_
                    refine wp_iload (t := 47) rfl rfl ?_
                    refine wp_vi (ci := 3) (c_X3_used hp hW hn ⟨by omega, by omega⟩ (by unfold zin; omega) (hI0 _ _)) (t := 48) rfl kX3_89 rfl rfl (by omega) (by first | rfl | assumption) ⟨_, _, rfl⟩ (Nat.le_of_ble_eq_true rfl) ⟨Nat.le_refl _, Nat.le_refl _⟩ (fun r93 I93 R93 c93 => ?_)
                    refine wp_canon (fun hI1 => ?_)
                    obtain ⟨rfl, rfl, rfl⟩ := c93
                    refine wp_iload_n (t := 49) rfl rfl ?_
                    refine wp_icmp_le (t := 50) (tgt := 104) rfl (by decide) (hub _) (by first | assumption | exact hI1 _ _ | exact hI0 _ _ | exact zin_and _ _ | (unfold zin; omega) | (unfold zin at *; omega)) (fun h97 => ?_) (fun h97 => ?_)
                    · refine wp_iinc (t := 53) rfl rfl (by decide) rfl ?_
                      refine wp_goto (t := 54) (tgt := 19) rfl (by decide) ?_
                      refine ih (a + 1) _ _ _ (by omega) (by omega) (by omega) hut ?_
                      rcases hs with ⟨e, hs⟩ | ⟨g1, g2, g3, hs⟩
                      · first
                          | exact Or.inl ⟨e, fun c c0 c1 c2 c3 c4 => by
                              by_cases hca : c = a
                              · subst hca
                                omega
                              · exact hs c c0 (by omega) c2 c3 c4⟩
                          | exact Or.inr ⟨by omega, by omega, by omega, fun c c0 c1 c2 c3 c4 c5 => by
                              by_cases hca : c = a
                              · subst hca
                                omega
                              · have := hs c c0 (by omega) c2 c3 c4
                                omega⟩
                      · first
                          | exact Or.inr ⟨g1, g2, g3, fun c c0 c1 c2 c3 c4 c5 => by
                              by_cases hca : c = a
                              · subst hca
                                omega
                              · exact hs c c0 (by omega) c2 c3 c4 c5⟩
                          | exact Or.inr ⟨by omega, by omega, by omega, fun c c0 c1 c2 c3 c4 c5 => by
                              by_cases hca : c = a
                              · subst hca
                                omega
                              · have := hs c c0 (by omega) c2 c3 c4 c5
                                omega⟩
                    · refine wp_iload (t := 51) rfl rfl ?_
                      refine wp_istore (t := 52) rfl (by decide) rfl ?_
                      refine wp_iinc (t := 53) rfl rfl (by decide) rfl ?_
                      refine wp_goto (t := 54) (tgt := 19) rfl (by decide) ?_
                      refine ih (a + 1) _ _ _ (by omega) (by omega) (by omega) hut ?_
                      rcases hs with ⟨e, hs⟩ | ⟨g1, g2, g3, hs⟩
                      · first
                          | exact Or.inl ⟨e, fun c c0 c1 c2 c3 c4 => by
                              by_cases hca : c = a
                              · subst hca
                                omega
                              · exact hs c c0 (by omega) c2 c3 c4⟩
                          | exact Or.inr ⟨by omega, by omega, by omega, fun c c0 c1 c2 c3 c4 c5 => by
                              by_cases hca : c = a
                              · subst hca
                                omega
                              · have := hs c c0 (by omega) c2 c3 c4
                                omega⟩
                      · first
                          | exact Or.inr ⟨g1, g2, g3, fun c c0 c1 c2 c3 c4 c5 => by
                              by_cases hca : c = a
                              · subst hca
                                omega
                              · exact hs c c0 (by omega) c2 c3 c4 c5⟩
                          | exact Or.inr ⟨by omega, by omega, by omega, fun c c0 c1 c2 c3 c4 c5 => by
                              by_cases hca : c = a
                              · subst hca
                                omega
                              · have := hs c c0 (by omega) c2 c3 c4 c5
                                omega⟩
  refine wp_ls (ls' := [some (zR p), some (zI what), some (zI most), some (zI t), some (zI en), none, none, none, none]) rfl ?_
  refine wp_aload_n (t := 0) rfl rfl ?_
  refine wp_iload_n (t := 1) rfl rfl ?_
  refine wp_iload_n (t := 2) rfl rfl ?_
  refine wp_vi (ci := 3) (c_X3_used hp hW hn ⟨by omega, by omega⟩ (by unfold zin; omega) (by unfold zin; omega)) (t := 3) rfl kX3_89 rfl rfl (by omega) (by first | rfl | assumption) ⟨_, _, rfl⟩ (Nat.le_of_ble_eq_true rfl) ⟨Nat.le_refl _, Nat.le_refl _⟩ (fun r3 I3 R3 c3 => ?_)
  refine wp_canon (fun hI1 => ?_)
  obtain ⟨rfl, rfl, rfl⟩ := c3
  refine wp_iload_n (t := 4) rfl rfl ?_
  refine wp_icmp_le (t := 5) (tgt := 12) rfl (by decide) (hub _) (by first | assumption | exact hI1 _ _ | exact hI0 _ _ | exact zin_and _ _ | (unfold zin; omega) | (unfold zin at *; omega)) (fun h7 => ?_) (fun h7 => ?_)
  · refine wp_bipush (t := 8) rfl (by decide) ?_
    refine wp_istore (t := 9) rfl (by decide) rfl ?_
    refine wp_iconst (t := 10) rfl ?_
    refine wp_istore (t := 11) rfl (by decide) rfl ?_
    exact key _ 0 (-4) _ _ (by omega) (by omega) rfl (by omega) (Or.inl ⟨rfl, fun c c0 c1 => absurd c1 (by omega)⟩)
  · refine wp_iload_n (t := 6) rfl rfl ?_
    refine wp_ireturn (t := 7) rfl rfl ?_
    exact ⟨_, rfl, (sOver_some ht.1 (Int.le_refl _) hen.1 (by omega) (fun s g1 g2 => absurd g2 (by omega))).symm, rfl, rfl⟩
