set_option maxHeartbeats 4000000 in
set_option maxRecDepth 100000 in
theorem c_X3_placeDoneFirst {G : zG} {d n : Nat} {I : zMem} {R : zRef} {p : Nat} {c y : Int} (hp : p = 64 ∨ p = 86) (hW : zWir n R) (hn : 115 ≤ n) (hch : zCh I) (hpl : zPl I p) (hc : 0 ≤ c ∧ c < I 34 2) (hy : 0 ≤ y ∧ y ≤ 2000000) : MT G mX3_placeDoneFirst (d + 4) 0 0 [zR p, zI c, zI y] n I R (zP1 (fun r I' R' => (((r = 0 ∧ (sFl (cS I p) c y (I 34 0).toNat).1 = 0 ∧ I' = I) ∨ (r = 1 ∧ (sFl (cS I p) c y (I 34 0).toNat).1 ≠ 0 ∧ I' = zput I p c (sFl (cS I p) c y (I 34 0).toNat).1 (sFl (cS I p) c y (I 34 0).toNat).2.1))) ∧ R' = R)) := by
  refine MT.of (by decide +kernel) tX3_placeDoneFirst_ok (Nat.le_of_ble_eq_true rfl) (fun hI0 => ?_)
  obtain ⟨hl0, hl1, hl2, hl3, hl4, hl5, hp1⟩ := zpl hp
  obtain ⟨hr0, hr1, hr2, hr3, hr4, hr5⟩ := zpr hp hW hn
  obtain ⟨f1, f2, f3, f4, f5, f6⟩ := cS_facts hch hpl
  have hco := hch.1
  have hli := hch.2.1
  have hcc := hch.2.2.2.2.1 c hc.1 hc.2
  have hM : ∀ n : Nat, n ≤ (I 34 0).toNat → (sFl (cS I p) c y n).2.1 ≤ 1010000 := fun n hn9 => sFl_le f1 (by omega) (fun a a0 a1 a2 => (hpl a a0 a1).2.2.2.1.2) n (fun w g0 g1 => by
    have := f5 c w hc.1 hc.2 g0 (by show w ≤ I 34 0; omega)
    omega)
  have key : ∀ (m : Nat) (w le : Int) (z : Int × Int × Int) (x8 x9 : Option zV), 1 ≤ w → w ≤ I 34 0 + 1 → (I 34 0 + 1 - w).toNat = m → z = sFl (cS I p) c y (w - 1).toNat → (∀ w' : Int, 1 ≤ w' → w' < w → le ≤ sT (cS I p) c w') → zAtt (cS I p) c w le →
      WP G mX3_placeDoneFirst (d + 4) 0 0 0 0 15 [some (zR p), some (zI c), some (zI y), some (zI z.1), some (zI z.2.1), some (zI z.2.2), some (zI le), some (zI w), x8, x9] [] n I R (zP1 (fun r I' R' => (((r = 0 ∧ (sFl (cS I p) c y (I 34 0).toNat).1 = 0 ∧ I' = I) ∨ (r = 1 ∧ (sFl (cS I p) c y (I 34 0).toNat).1 ≠ 0 ∧ I' = zput I p c (sFl (cS I p) c y (I 34 0).toNat).1 (sFl (cS I p) c y (I 34 0).toNat).2.1))) ∧ R' = R)) := by
    intro m
    induction m with
    | zero =>
      intro w le z x8 x9 h0 h1 hmm hz g1 g2
      have hz' : z = sFl (cS I p) c y (I 34 0).toNat := by rw [hz, show w - 1 = I 34 0 by omega]
      have sp := sFl_spec (S := cS I p) (c := c) (y := y) (I 34 0).toNat
      have hm9 := hM _ (Nat.le_refl _)
      rw [← hz'] at sp hm9 ⊢
      have zb : 0 ≤ z.1 ∧ z.1 ≤ 8 := by
        rcases sp.2.2 with q | q <;> omega
      refine wp_iload (t := 10) rfl rfl ?_
      refine wp_aload_n (t := 11) rfl rfl ?_
      refine wp_getR (t := 12) (ji := 0) rfl fX3_27 rfl rfl (by omega) (by first | rfl | assumption) (by first | exact hW _ _ _ (by omega) rfl | assumption) ?_
      refine wp_getI (t := 13) (ji := 0) rfl fX3_55 rfl rfl (by omega) (by first | rfl | assumption) ?_
      refine wp_icmp_gt (t := 14) (tgt := 88) rfl (by decide) (by first | assumption | exact hI0 _ _ | exact zin_and _ _ | (unfold zin; omega) | (unfold zin at *; omega)) (by first | assumption | exact hI0 _ _ | exact zin_and _ _ | (unfold zin; omega) | (unfold zin at *; omega)) (fun h24 => ?_) (fun h24 => ?_)
      · refine wp_iload_n (t := 45) rfl rfl ?_
        refine wp_if_ne (t := 46) (tgt := 94) rfl (by decide) (by first | assumption | exact hI0 _ _ | exact zin_and _ _ | (unfold zin; omega) | (unfold zin at *; omega)) (fun h89 => ?_) (fun h89 => ?_)
        · have sq : 1 ≤ z.1 ∧ z.1 ≤ I 34 0 ∧ 0 ≤ z.2.1 := by rcases sp.2.2 with q | q <;> omega
          have hlo := hcc.2.2.2.2 z.1 sq.1 sq.2.1
          refine wp_aload_n (t := 49) rfl rfl ?_
          refine wp_iload_n (t := 50) rfl rfl ?_
          refine wp_iload_n (t := 51) rfl rfl ?_
          refine wp_iload (t := 52) rfl rfl ?_
          refine wp_vv (ci := 3) (c_X3_place hp hW hn ⟨hc.1, by omega⟩ ⟨by omega, by omega⟩ hcc.1 hlo ⟨by omega, hm9⟩) (t := 53) rfl kX3_95 rfl rfl (by omega) (by first | rfl | assumption) ⟨_, _, rfl⟩ (Nat.le_of_ble_eq_true rfl) ⟨Nat.le_refl _, Nat.le_refl _⟩ (fun I99 R99 c99 => ?_)
          refine wp_canon (fun hI1 => ?_)
          obtain ⟨rfl, rfl⟩ := c99
          refine wp_iconst (t := 54) rfl ?_
          refine wp_zreturn (t := 55) rfl rfl (by omega) ?_
          exact ⟨_, rfl, Or.inr ⟨rfl, by omega, rfl⟩, rfl⟩
        · refine wp_iconst (t := 47) rfl ?_
          refine wp_zreturn (t := 48) rfl rfl (by omega) ?_
          exact ⟨_, rfl, Or.inl ⟨rfl, by omega, rfl⟩, rfl⟩
      · exact absurd h24 (by omega)
    | succ m ih =>
      intro w le z x8 x9 h0 h1 hmm hz g1 g2
      have hT := f5 c w hc.1 hc.2 h0 (by show w ≤ I 34 0; omega)
      have hlo := hcc.2.2.2.2 w h0 (by omega)
      have sp := sFl_spec (S := cS I p) (c := c) (y := y) (w - 1).toNat
      rw [← hz] at sp
      have zb : 0 ≤ z.2.2 ∧ z.2.2 ≤ 2000000 := by
        rcases sp.2.2 with q | q
        · omega
        · have := f5 c z.1 hc.1 hc.2 (by omega) (by show z.1 ≤ I 34 0; omega)
          omega
      have sle := sSoon_le (S := cS I p) (c := c) (w := w) (y := z.2.2) (M := 1010000) f1 (by omega) (by omega) (fun a a0 a1 a2 => (hpl a a0 a1).2.2.2.1.2)
      have sge : -4 ≤ sSoon (cS I p) c w z.2.2 := by
        rcases sSoon_spec (S := cS I p) (c := c) (w := w) (y := z.2.2) with q | q <;> omega
      have hs := sFl_succ (S := cS I p) (c := c) (y := y) h0
      rw [← hz] at hs
      have eww : (w + 1 - 1).toNat = w.toNat := by rw [show w + 1 - 1 = w by omega]
      have leb : 2 ≤ le ∧ le ≤ 1000000 := by
        rcases g2 with q | ⟨w', q0, q1, q2⟩
        · omega
        · have := f5 c w' hc.1 hc.2 q0 (by show w' ≤ I 34 0; omega)
          omega
      refine wp_iload (t := 10) rfl rfl ?_
      refine wp_aload_n (t := 11) rfl rfl ?_
      refine wp_getR (t := 12) (ji := 0) rfl fX3_27 rfl rfl (by omega) (by first | rfl | assumption) (by first | exact hW _ _ _ (by omega) rfl | assumption) ?_
      refine wp_getI (t := 13) (ji := 0) rfl fX3_55 rfl rfl (by omega) (by first | rfl | assumption) ?_
      refine wp_icmp_gt (t := 14) (tgt := 88) rfl (by decide) (by first | assumption | exact hI0 _ _ | exact zin_and _ _ | (unfold zin; omega) | (unfold zin at *; omega)) (by first | assumption | exact hI0 _ _ | exact zin_and _ _ | (unfold zin; omega) | (unfold zin at *; omega)) (fun h24 => ?_) (fun h24 => ?_)
      · exact absurd h24 (by omega)
      · refine wp_aload_n (t := 15) rfl rfl ?_
        refine wp_iload_n (t := 16) rfl rfl ?_
        refine wp_iload (t := 17) rfl rfl ?_
        refine wp_vi (ci := 3) (c_X3_takes (d := d + 1) hp hW hn ⟨hc.1, by omega⟩ ⟨by omega, by omega⟩ ⟨by omega, by omega⟩ ⟨by omega, by omega⟩) (t := 18) rfl kX3_47 rfl rfl (by omega) (by first | rfl | assumption) ⟨_, _, rfl⟩ (Nat.le_of_ble_eq_true rfl) ⟨Nat.le_refl _, Nat.le_refl _⟩ (fun r31 I31 R31 c31 => ?_)
        refine wp_canon (fun hI1 => ?_)
        obtain ⟨rfl, rfl, rfl⟩ := c31
        refine wp_istore (t := 19) rfl (by decide) rfl ?_
        refine wp_iload (t := 20) rfl rfl ?_
        refine wp_iload (t := 21) rfl rfl ?_
        refine wp_icmp_lt (t := 22) (tgt := 46) rfl (by decide) (by first | assumption | exact hI1 _ _ | exact hI0 _ _ | exact zin_and _ _ | (unfold zin; omega) | (unfold zin at *; omega)) (by first | assumption | exact hI1 _ _ | exact hI0 _ _ | exact zin_and _ _ | (unfold zin; omega) | (unfold zin at *; omega)) (fun h40 => ?_) (fun h40 => ?_)
        · refine wp_iload (t := 24) rfl rfl ?_
          refine wp_istore (t := 25) rfl (by decide) rfl ?_
          refine wp_aload_n (t := 26) rfl rfl ?_
          refine wp_iload_n (t := 27) rfl rfl ?_
          refine wp_iload (t := 28) rfl rfl ?_
          refine wp_iload (t := 29) rfl rfl ?_
          refine wp_vi (ci := 3) (c_X3_firstNotRefused hp hW hn hch hpl hc ⟨h0, by omega⟩ (by unfold zin; omega)) (t := 30) rfl kX3_92 rfl rfl (by omega) (by first | rfl | assumption) ⟨_, _, rfl⟩ (Nat.le_of_ble_eq_true rfl) ⟨Nat.le_refl _, Nat.le_refl _⟩ (fun r56 I56 R56 c56 => ?_)
          refine wp_canon (fun hI2 => ?_)
          obtain ⟨rfl, rfl, rfl⟩ := c56
          refine wp_istore (t := 31) rfl (by decide) rfl ?_
          refine wp_iload (t := 32) rfl rfl ?_
          refine wp_bipush (t := 33) rfl (by decide) ?_
          refine wp_icmp_eq (t := 34) (tgt := 82) rfl (by decide) (by first | assumption | exact hI2 _ _ | exact hI1 _ _ | exact hI0 _ _ | exact zin_and _ _ | (unfold zin; omega) | (unfold zin at *; omega)) (by first | assumption | exact hI2 _ _ | exact hI1 _ _ | exact hI0 _ _ | exact zin_and _ _ | (unfold zin; omega) | (unfold zin at *; omega)) (fun h65 => ?_) (fun h65 => ?_)
          · refine wp_iinc (t := 43) rfl rfl (by decide) rfl ?_
            refine wp_goto (t := 44) (tgt := 15) rfl (by decide) ?_
            exact ih (w + 1) _ z _ _ (by omega) (by omega) (by omega) (by rw [eww, hs, if_neg (by omega)]) (fun w' q0 q1 => by
                by_cases e : w' = w
                · rw [e]; exact Int.le_refl _
                · have := g1 w' q0 (by omega)
                  omega) (Or.inr ⟨w, h0, by omega, rfl⟩)
          · refine wp_iload (t := 35) rfl rfl ?_
            refine wp_istore_n (t := 36) rfl (by decide) rfl ?_
            refine wp_iload (t := 37) rfl rfl ?_
            refine wp_istore (t := 38) rfl (by decide) rfl ?_
            refine wp_iload (t := 39) rfl rfl ?_
            refine wp_iload (t := 40) rfl rfl ?_
            refine wp_iadd (t := 41) rfl ?_
            refine wp_istore (t := 42) rfl (by decide) rfl ?_
            refine wp_iinc (t := 43) rfl rfl (by decide) rfl ?_
            refine wp_goto (t := 44) (tgt := 15) rfl (by decide) ?_
            exact ih (w + 1) _ (w, sSoon (cS I56 p) c w z.2.2, sSoon (cS I56 p) c w z.2.2 + sT (cS I56 p) c w) _ _ (by omega) (by omega) (by omega) (by rw [eww, hs, if_pos h65]) (fun w' q0 q1 => by
                by_cases e : w' = w
                · rw [e]; exact Int.le_refl _
                · have := g1 w' q0 (by omega)
                  omega) (Or.inr ⟨w, h0, by omega, rfl⟩)
        · refine wp_goto (t := 23) (tgt := 82) rfl (by decide) ?_
          refine wp_iinc (t := 43) rfl rfl (by decide) rfl ?_
          refine wp_goto (t := 44) (tgt := 15) rfl (by decide) ?_
          have sk2 := sFl_skip (S := cS I31 p) (c := c) (y := y) (w := w) (n := (w - 1).toNat) (by
            rcases g2 with q | ⟨w', q0, q1, q2⟩
            · omega
            · exact ⟨w', q0, by omega, by omega, by omega⟩)
          rw [← hz] at sk2
          exact ih (w + 1) _ z _ _ (by omega) (by omega) (by omega) (by rw [eww, hs, if_neg (by omega)]) (fun w' q0 q1 => by
              by_cases e : w' = w
              · rw [e]; omega
              · exact g1 w' q0 (by omega)) (Or.inr (by
              rcases g2 with q | ⟨w', q0, q1, q2⟩
              · omega
              · exact ⟨w', q0, by omega, q2⟩))
  refine wp_ls (ls' := [some (zR p), some (zI c), some (zI y), none, none, none, none, none, none, none]) rfl ?_
  refine wp_iconst (t := 0) rfl ?_
  refine wp_istore_n (t := 1) rfl (by decide) rfl ?_
  refine wp_iconst (t := 2) rfl ?_
  refine wp_istore (t := 3) rfl (by decide) rfl ?_
  refine wp_iload_n (t := 4) rfl rfl ?_
  refine wp_istore (t := 5) rfl (by decide) rfl ?_
  refine wp_ldc (1000000) (t := 6) rfl (wsL_law_r20_l (List.mem_of_getElem? (i := 7) rfl)) (by decide) ?_
  refine wp_istore (t := 7) rfl (by decide) rfl ?_
  refine wp_iconst (t := 8) rfl ?_
  refine wp_istore (t := 9) rfl (by decide) rfl ?_
  exact key _ 1 1000000 (0, 0, y) _ _ (by omega) (by omega) rfl rfl (fun w' q0 q1 => absurd q1 (by omega)) (Or.inl ⟨rfl, rfl⟩)
set_option maxHeartbeats 4000000 in
set_option maxRecDepth 100000 in
theorem c_X3_length {G : zG} {d n : Nat} {I : zMem} {R : zRef} {p : Nat} (hp : p = 64 ∨ p = 86) (hW : zWir n R) (hn : 115 ≤ n) (hco : 0 ≤ I 34 2 ∧ I 34 2 ≤ 6) (hu : ∀ c : Int, 0 ≤ c → c < I 34 2 → 0 ≤ I (p + 4) c ∧ I (p + 4) c ≤ 1010000) : MT G mX3_length (d + 1) 0 0 [zR p] n I R (zP1 (fun r I' R' => r = sLen (cS I p) (I 34 2).toNat ∧ I' = I ∧ R' = R)) := by
  refine MT.of (by decide +kernel) tX3_length_ok (Nat.le_of_ble_eq_true rfl) (fun hI0 => ?_)
  obtain ⟨hl0, hl1, hl2, hl3, hl4, hl5, hp1⟩ := zpl hp
  obtain ⟨hr0, hr1, hr2, hr3, hr4, hr5⟩ := zpr hp hW hn
  have key : ∀ (m : Nat) (c s : Int), 0 ≤ c → c ≤ I 34 2 → (I 34 2 - c).toNat = m → s = sLen (cS I p) c.toNat → 0 ≤ s ∧ s ≤ 1010000 → WP G mX3_length (d + 1) 0 0 0 0 4 [some (zR p), some (zI s), some (zI c)] [] n I R (zP1 (fun r I' R' => r = sLen (cS I p) (I 34 2).toNat ∧ I' = I ∧ R' = R)) := by
    intro m
    induction m with
    | zero =>
      intro c s h0 h1 hm hs hb
      refine wp_iload_n (t := 4) rfl rfl ?_
      refine wp_aload_n (t := 5) rfl rfl ?_
      refine wp_getR (t := 6) (ji := 0) rfl fX3_27 rfl rfl (by omega) (by first | rfl | assumption) (by first | exact hW _ _ _ (by omega) rfl | assumption) ?_
      refine wp_getI (t := 7) (ji := 2) rfl fX3_63 rfl rfl (by omega) (by first | rfl | assumption) ?_
      refine wp_icmp_ge (t := 8) (tgt := 40) rfl (by decide) (by first | assumption | exact hI0 _ _ | exact zin_and _ _ | (unfold zin; omega) | (unfold zin at *; omega)) (by first | assumption | exact hI0 _ _ | exact zin_and _ _ | (unfold zin; omega) | (unfold zin at *; omega)) (fun h12 => ?_) (fun h12 => ?_)
      · refine wp_iload_n (t := 22) rfl rfl ?_
        refine wp_ireturn (t := 23) rfl rfl ?_
        exact ⟨_, rfl, by rw [hs, show c = I 34 2 by omega], rfl, rfl⟩
      · exact absurd h12 (by omega)
    | succ m ih =>
      intro c s h0 h1 hm hs hb
      have huc := hu c h0 (by omega)
      refine wp_iload_n (t := 4) rfl rfl ?_
      refine wp_aload_n (t := 5) rfl rfl ?_
      refine wp_getR (t := 6) (ji := 0) rfl fX3_27 rfl rfl (by omega) (by first | rfl | assumption) (by first | exact hW _ _ _ (by omega) rfl | assumption) ?_
      refine wp_getI (t := 7) (ji := 2) rfl fX3_63 rfl rfl (by omega) (by first | rfl | assumption) ?_
      refine wp_icmp_ge (t := 8) (tgt := 40) rfl (by decide) (by first | assumption | exact hI0 _ _ | exact zin_and _ _ | (unfold zin; omega) | (unfold zin at *; omega)) (by first | assumption | exact hI0 _ _ | exact zin_and _ _ | (unfold zin; omega) | (unfold zin at *; omega)) (fun h12 => ?_) (fun h12 => ?_)
      · exact absurd h12 (by omega)
      · refine wp_aload_n (t := 9) rfl rfl ?_
        refine wp_iload_n (t := 10) rfl rfl ?_
        refine wp_vi (ci := 3) (c_X3_isPut (d := d) hp hW hn ⟨h0, by omega⟩) (t := 11) rfl kX3_66 rfl rfl (by omega) (by first | rfl | assumption) ⟨_, _, rfl⟩ (Nat.le_of_ble_eq_true rfl) ⟨Nat.le_refl _, Nat.le_refl _⟩ (fun r17 I17 R17 c17 => ?_)
        refine wp_canon (fun hI1 => ?_)
        obtain ⟨e17, rfl, rfl⟩ := c17
        refine wp_if_eq (t := 12) (tgt := 34) rfl (by decide) (by rw [e17]; unfold zin; split <;> omega) (fun h20 => ?_) (fun h20 => ?_)
        · refine wp_iinc (t := 20) rfl rfl (by decide) rfl ?_
          refine wp_goto (t := 21) (tgt := 4) rfl (by decide) ?_
          refine ih (c + 1) _ (by omega) (by omega) (by omega) ?_ hb
          rw [sLen_succ _ h0, if_neg (show ¬ 0 < sW (cS I17 p) c from fun q => by rw [if_pos (show 0 < I17 (p + 2) c from q)] at e17; omega), ← hs]
        · refine wp_iload_n (t := 13) rfl rfl ?_
          refine wp_aload_n (t := 14) rfl rfl ?_
          refine wp_getR (t := 15) (ji := 4) rfl fX3_21 rfl rfl (by omega) (by first | rfl | assumption) (by first | exact hW _ _ _ (by omega) rfl | assumption) ?_
          refine wp_iload_n (t := 16) rfl rfl ?_
          refine wp_iaload (t := 17) rfl (by omega) (by first | rfl | assumption) (by omega) (by omega) (by decide) ?_
          refine wp_max (t := 18) rfl (wsL_law_r26_l (List.mem_of_getElem? (i := 19) rfl)) (by first | assumption | exact hI1 _ _ | exact hI0 _ _ | exact zin_and _ _ | (unfold zin; omega) | (unfold zin at *; omega)) (by first | assumption | exact hI1 _ _ | exact hI0 _ _ | exact zin_and _ _ | (unfold zin; omega) | (unfold zin at *; omega)) (Nat.le_of_ble_eq_true rfl) ⟨Nat.le_refl _, Nat.le_refl _⟩ ?_
          refine wp_istore_n (t := 19) rfl (by decide) rfl ?_
          refine wp_iinc (t := 20) rfl rfl (by decide) rfl ?_
          refine wp_goto (t := 21) (tgt := 4) rfl (by decide) ?_
          refine ih (c + 1) _ (by omega) (by omega) (by omega) ?_ (by omega)
          rw [sLen_succ _ h0, if_pos (by show 0 < I17 (p + 2) c; by_cases q : 0 < I17 (p + 2) c; exact q; rw [if_neg q] at e17; omega), ← hs]
          rfl
  refine wp_ls (ls' := [some (zR p), none, none]) rfl ?_
  refine wp_iconst (t := 0) rfl ?_
  refine wp_istore_n (t := 1) rfl (by decide) rfl ?_
  refine wp_iconst (t := 2) rfl ?_
  refine wp_istore_n (t := 3) rfl (by decide) rfl ?_
  exact key _ 0 0 (by omega) (by omega) rfl rfl (by omega)
set_option maxHeartbeats 4000000 in
set_option maxRecDepth 100000 in
theorem c_X3_manyPut {G : zG} {d n : Nat} {I : zMem} {R : zRef} {p : Nat} (hp : p = 64 ∨ p = 86) (hW : zWir n R) (hn : 115 ≤ n) (hco : 0 ≤ I 34 2 ∧ I 34 2 ≤ 6) : MT G mX3_manyPut (d + 1) 0 0 [zR p] n I R (zP1 (fun r I' R' => r = zsum (fun c => if 0 < I (p + 2) c then 1 else 0) (I 34 2).toNat ∧ I' = I ∧ R' = R)) := by
  refine MT.of (by decide +kernel) tX3_manyPut_ok (Nat.le_of_ble_eq_true rfl) (fun hI0 => ?_)
  obtain ⟨hl0, hl1, hl2, hl3, hl4, hl5, hp1⟩ := zpl hp
  obtain ⟨hr0, hr1, hr2, hr3, hr4, hr5⟩ := zpr hp hW hn
  have key : ∀ (m : Nat) (c s : Int), 0 ≤ c → c ≤ I 34 2 → (I 34 2 - c).toNat = m → s = zsum (fun c => if 0 < I (p + 2) c then 1 else 0) c.toNat → WP G mX3_manyPut (d + 1) 0 0 0 0 4 [some (zR p), some (zI s), some (zI c)] [] n I R (zP1 (fun r I' R' => r = zsum (fun c => if 0 < I (p + 2) c then 1 else 0) (I 34 2).toNat ∧ I' = I ∧ R' = R)) := by
    intro m
    induction m with
    | zero =>
      intro c s h0 h1 hm hs
      refine wp_iload_n (t := 4) rfl rfl ?_
      refine wp_aload_n (t := 5) rfl rfl ?_
      refine wp_getR (t := 6) (ji := 0) rfl fX3_27 rfl rfl (by omega) (by first | rfl | assumption) (by first | exact hW _ _ _ (by omega) rfl | assumption) ?_
      refine wp_getI (t := 7) (ji := 2) rfl fX3_63 rfl rfl (by omega) (by first | rfl | assumption) ?_
      refine wp_icmp_ge (t := 8) (tgt := 32) rfl (by decide) (by first | assumption | exact hI0 _ _ | exact zin_and _ _ | (unfold zin; omega) | (unfold zin at *; omega)) (by first | assumption | exact hI0 _ _ | exact zin_and _ _ | (unfold zin; omega) | (unfold zin at *; omega)) (fun h12 => ?_) (fun h12 => ?_)
      · refine wp_iload_n (t := 16) rfl rfl ?_
        refine wp_ireturn (t := 17) rfl rfl ?_
        exact ⟨_, rfl, by rw [hs, show c = I 34 2 by omega], rfl, rfl⟩
      · exact absurd h12 (by omega)
    | succ m ih =>
      intro c s h0 h1 hm hs
      refine wp_iload_n (t := 4) rfl rfl ?_
      refine wp_aload_n (t := 5) rfl rfl ?_
      refine wp_getR (t := 6) (ji := 0) rfl fX3_27 rfl rfl (by omega) (by first | rfl | assumption) (by first | exact hW _ _ _ (by omega) rfl | assumption) ?_
      refine wp_getI (t := 7) (ji := 2) rfl fX3_63 rfl rfl (by omega) (by first | rfl | assumption) ?_
      refine wp_icmp_ge (t := 8) (tgt := 32) rfl (by decide) (by first | assumption | exact hI0 _ _ | exact zin_and _ _ | (unfold zin; omega) | (unfold zin at *; omega)) (by first | assumption | exact hI0 _ _ | exact zin_and _ _ | (unfold zin; omega) | (unfold zin at *; omega)) (fun h12 => ?_) (fun h12 => ?_)
      · exact absurd h12 (by omega)
      · refine wp_aload_n (t := 9) rfl rfl ?_
        refine wp_iload_n (t := 10) rfl rfl ?_
        refine wp_vi (ci := 3) (c_X3_isPut (d := d) hp hW hn ⟨h0, by omega⟩) (t := 11) rfl kX3_66 rfl rfl (by omega) (by first | rfl | assumption) ⟨_, _, rfl⟩ (Nat.le_of_ble_eq_true rfl) ⟨Nat.le_refl _, Nat.le_refl _⟩ (fun r17 I17 R17 c17 => ?_)
        refine wp_canon (fun hI1 => ?_)
        obtain ⟨e17, rfl, rfl⟩ := c17
        refine wp_if_eq (t := 12) (tgt := 26) rfl (by decide) (by rw [e17]; unfold zin; split <;> omega) (fun h20 => ?_) (fun h20 => ?_)
        · refine wp_iinc (t := 14) rfl rfl (by decide) rfl ?_
          refine wp_goto (t := 15) (tgt := 4) rfl (by decide) ?_
          refine ih (c + 1) _ (by omega) (by omega) (by omega) ?_
          rw [zsum_succ _ h0, if_neg (show ¬ 0 < I17 (p + 2) c from fun q => by rw [if_pos q] at e17; omega), ← hs, Int.add_zero]
        · refine wp_iinc (t := 13) rfl rfl (by decide) rfl ?_
          refine wp_iinc (t := 14) rfl rfl (by decide) rfl ?_
          refine wp_goto (t := 15) (tgt := 4) rfl (by decide) ?_
          refine ih (c + 1) _ (by omega) (by omega) (by omega) ?_
          rw [zsum_succ _ h0, if_pos (by by_cases q : 0 < I17 (p + 2) c; exact q; rw [if_neg q] at e17; omega), ← hs]
  refine wp_ls (ls' := [some (zR p), none, none]) rfl ?_
  refine wp_iconst (t := 0) rfl ?_
  refine wp_istore_n (t := 1) rfl (by decide) rfl ?_
  refine wp_iconst (t := 2) rfl ?_
  refine wp_istore_n (t := 3) rfl (by decide) rfl ?_
  exact key _ 0 0 (by omega) (by omega) rfl rfl
set_option maxHeartbeats 4000000 in
set_option maxRecDepth 100000 in
theorem c_X3_leastTaken {G : zG} {d n : Nat} {I : zMem} {R : zRef} {p : Nat} {c : Int} (hp : p = 64 ∨ p = 86) (hW : zWir n R) (hn : 115 ≤ n) (hch : zCh I) (hpl : zPl I p) (hc : 0 ≤ c ∧ c < I 34 2) : MT G mX3_leastTaken (d + 3) 0 0 [zR p, zI c] n I R (zP1 (fun r I' R' => r = zminf (sT (cS I p) c) (I 34 0).toNat ∧ I' = I ∧ R' = R)) := by
  refine MT.of (by decide +kernel) tX3_leastTaken_ok (Nat.le_of_ble_eq_true rfl) (fun hI0 => ?_)
  obtain ⟨hl0, hl1, hl2, hl3, hl4, hl5, hp1⟩ := zpl hp
  obtain ⟨hr0, hr1, hr2, hr3, hr4, hr5⟩ := zpr hp hW hn
  obtain ⟨f1, f2, f3, f4, f5, f6⟩ := cS_facts hch hpl
  have hco := hch.1
  have hli := hch.2.1
  have hcc := hch.2.2.2.2.1 c hc.1 hc.2
  have key : ∀ (m : Nat) (w s : Int), 1 ≤ w → w ≤ I 34 0 + 1 → (I 34 0 + 1 - w).toNat = m → s = zminf (sT (cS I p) c) (w - 1).toNat → 0 ≤ s ∧ s ≤ 1000000 → WP G mX3_leastTaken (d + 3) 0 0 0 0 5 [some (zR p), some (zI c), some (zI s), some (zI w)] [] n I R (zP1 (fun r I' R' => r = zminf (sT (cS I p) c) (I 34 0).toNat ∧ I' = I ∧ R' = R)) := by
    intro m
    induction m with
    | zero =>
      intro w s h0 h1 hm hs hb
      refine wp_iload_n (t := 4) rfl rfl ?_
      refine wp_aload_n (t := 5) rfl rfl ?_
      refine wp_getR (t := 6) (ji := 0) rfl fX3_27 rfl rfl (by omega) (by first | rfl | assumption) (by first | exact hW _ _ _ (by omega) rfl | assumption) ?_
      refine wp_getI (t := 7) (ji := 0) rfl fX3_55 rfl rfl (by omega) (by first | rfl | assumption) ?_
      refine wp_icmp_gt (t := 8) (tgt := 33) rfl (by decide) (by first | assumption | exact hI0 _ _ | exact zin_and _ _ | (unfold zin; omega) | (unfold zin at *; omega)) (by first | assumption | exact hI0 _ _ | exact zin_and _ _ | (unfold zin; omega) | (unfold zin at *; omega)) (fun h13 => ?_) (fun h13 => ?_)
      · refine wp_iload_n (t := 18) rfl rfl ?_
        refine wp_ireturn (t := 19) rfl rfl ?_
        exact ⟨_, rfl, by rw [hs, show w - 1 = I 34 0 by omega], rfl, rfl⟩
      · exact absurd h13 (by omega)
    | succ m ih =>
      intro w s h0 h1 hm hs hb
      have hT := f5 c w hc.1 hc.2 h0 (by show w ≤ I 34 0; omega)
      have hlo := hcc.2.2.2.2 w h0 (by omega)
      refine wp_iload_n (t := 4) rfl rfl ?_
      refine wp_aload_n (t := 5) rfl rfl ?_
      refine wp_getR (t := 6) (ji := 0) rfl fX3_27 rfl rfl (by omega) (by first | rfl | assumption) (by first | exact hW _ _ _ (by omega) rfl | assumption) ?_
      refine wp_getI (t := 7) (ji := 0) rfl fX3_55 rfl rfl (by omega) (by first | rfl | assumption) ?_
      refine wp_icmp_gt (t := 8) (tgt := 33) rfl (by decide) (by first | assumption | exact hI0 _ _ | exact zin_and _ _ | (unfold zin; omega) | (unfold zin at *; omega)) (by first | assumption | exact hI0 _ _ | exact zin_and _ _ | (unfold zin; omega) | (unfold zin at *; omega)) (fun h13 => ?_) (fun h13 => ?_)
      · exact absurd h13 (by omega)
      · refine wp_iload_n (t := 9) rfl rfl ?_
        refine wp_aload_n (t := 10) rfl rfl ?_
        refine wp_iload_n (t := 11) rfl rfl ?_
        refine wp_iload_n (t := 12) rfl rfl ?_
        refine wp_vi (ci := 3) (c_X3_takes (d := d) hp hW hn ⟨hc.1, by omega⟩ ⟨by omega, by omega⟩ ⟨by omega, by omega⟩ ⟨by omega, by omega⟩) (t := 13) rfl kX3_47 rfl rfl (by omega) (by first | rfl | assumption) ⟨_, _, rfl⟩ (Nat.le_of_ble_eq_true rfl) ⟨Nat.le_refl _, Nat.le_refl _⟩ (fun r20 I20 R20 c20 => ?_)
        refine wp_canon (fun hI1 => ?_)
        obtain ⟨rfl, rfl, rfl⟩ := c20
        refine wp_min (t := 14) rfl (wsL_law_r34_l (List.mem_of_getElem? (i := 9) rfl)) (by first | assumption | exact hI1 _ _ | exact hI0 _ _ | exact zin_and _ _ | (unfold zin; omega) | (unfold zin at *; omega)) (by first | assumption | exact hI1 _ _ | exact hI0 _ _ | exact zin_and _ _ | (unfold zin; omega) | (unfold zin at *; omega)) (Nat.le_of_ble_eq_true rfl) ⟨Nat.le_refl _, Nat.le_refl _⟩ ?_
        refine wp_istore_n (t := 15) rfl (by decide) rfl ?_
        refine wp_iinc (t := 16) rfl rfl (by decide) rfl ?_
        refine wp_goto (t := 17) (tgt := 5) rfl (by decide) ?_
        refine ih (w + 1) _ (by omega) (by omega) (by omega) ?_ (by omega)
        rw [show w + 1 - 1 = w by omega, zminf_succ _ h0, ← hs]
  refine wp_ls (ls' := [some (zR p), some (zI c), none, none]) rfl ?_
  refine wp_ldc (1000000) (t := 0) rfl (wsL_law_r20_l (List.mem_of_getElem? (i := 7) rfl)) (by decide) ?_
  refine wp_istore_n (t := 1) rfl (by decide) rfl ?_
  refine wp_iconst (t := 2) rfl ?_
  refine wp_istore_n (t := 3) rfl (by decide) rfl ?_
  exact key _ 1 1000000 (by omega) (by omega) rfl rfl (by omega)
set_option maxHeartbeats 4000000 in
set_option maxRecDepth 100000 in
theorem c_X3_stairs {G : zG} {d n : Nat} {I : zMem} {R : zRef} {p : Nat} {c : Int} (hp : p = 64 ∨ p = 86) (hW : zWir n R) (hn : 115 ≤ n) (hch : zCh I) (hpl : zPl I p) (hc : 0 ≤ c ∧ c < I 34 2) : MT G mX3_stairs (d + 3) 0 0 [zR p, zI c] n I R (zP1 (fun r I' R' => r = (zst (sT (cS I p) c) (I 34 0).toNat).1 ∧ I' = I ∧ R' = R)) := by
  refine MT.of (by decide +kernel) tX3_stairs_ok (Nat.le_of_ble_eq_true rfl) (fun hI0 => ?_)
  obtain ⟨hl0, hl1, hl2, hl3, hl4, hl5, hp1⟩ := zpl hp
  obtain ⟨hr0, hr1, hr2, hr3, hr4, hr5⟩ := zpr hp hW hn
  obtain ⟨f1, f2, f3, f4, f5, f6⟩ := cS_facts hch hpl
  have hco := hch.1
  have hli := hch.2.1
  have hcc := hch.2.2.2.2.1 c hc.1 hc.2
  have key : ∀ (m : Nat) (w : Int) (z : Int × Int), 1 ≤ w → w ≤ I 34 0 + 1 → (I 34 0 + 1 - w).toNat = m → z = zst (sT (cS I p) c) (w - 1).toNat → 0 ≤ z.2 ∧ z.2 ≤ 1000000 → WP G mX3_stairs (d + 3) 0 0 0 0 8 [some (zR p), some (zI c), some (zI z.1), some (zI z.2), some (zI w)] [] n I R (zP1 (fun r I' R' => r = (zst (sT (cS I p) c) (I 34 0).toNat).1 ∧ I' = I ∧ R' = R)) := by
    intro m
    induction m with
    | zero =>
      intro w z h0 h1 hm hs hb
      refine wp_iload (t := 6) rfl rfl ?_
      refine wp_aload_n (t := 7) rfl rfl ?_
      refine wp_getR (t := 8) (ji := 0) rfl fX3_27 rfl rfl (by omega) (by first | rfl | assumption) (by first | exact hW _ _ _ (by omega) rfl | assumption) ?_
      refine wp_getI (t := 9) (ji := 0) rfl fX3_55 rfl rfl (by omega) (by first | rfl | assumption) ?_
      refine wp_icmp_gt (t := 10) (tgt := 52) rfl (by decide) (by first | assumption | exact hI0 _ _ | exact zin_and _ _ | (unfold zin; omega) | (unfold zin at *; omega)) (by first | assumption | exact hI0 _ _ | exact zin_and _ _ | (unfold zin; omega) | (unfold zin at *; omega)) (fun h17 => ?_) (fun h17 => ?_)
      · refine wp_iload_n (t := 30) rfl rfl ?_
        refine wp_ireturn (t := 31) rfl rfl ?_
        exact ⟨_, rfl, by rw [hs, show w - 1 = I 34 0 by omega], rfl, rfl⟩
      · exact absurd h17 (by omega)
    | succ m ih =>
      intro w z h0 h1 hm hs hb
      have hT := f5 c w hc.1 hc.2 h0 (by show w ≤ I 34 0; omega)
      have hlo := hcc.2.2.2.2 w h0 (by omega)
      have hq := zst_succ (sT (cS I p) c) h0
      rw [← hs] at hq
      refine wp_iload (t := 6) rfl rfl ?_
      refine wp_aload_n (t := 7) rfl rfl ?_
      refine wp_getR (t := 8) (ji := 0) rfl fX3_27 rfl rfl (by omega) (by first | rfl | assumption) (by first | exact hW _ _ _ (by omega) rfl | assumption) ?_
      refine wp_getI (t := 9) (ji := 0) rfl fX3_55 rfl rfl (by omega) (by first | rfl | assumption) ?_
      refine wp_icmp_gt (t := 10) (tgt := 52) rfl (by decide) (by first | assumption | exact hI0 _ _ | exact zin_and _ _ | (unfold zin; omega) | (unfold zin at *; omega)) (by first | assumption | exact hI0 _ _ | exact zin_and _ _ | (unfold zin; omega) | (unfold zin at *; omega)) (fun h17 => ?_) (fun h17 => ?_)
      · exact absurd h17 (by omega)
      · refine wp_aload_n (t := 11) rfl rfl ?_
        refine wp_iload_n (t := 12) rfl rfl ?_
        refine wp_iload (t := 13) rfl rfl ?_
        refine wp_vi (ci := 3) (c_X3_takes (d := d) hp hW hn ⟨hc.1, by omega⟩ ⟨by omega, by omega⟩ ⟨by omega, by omega⟩ ⟨by omega, by omega⟩) (t := 14) rfl kX3_47 rfl rfl (by omega) (by first | rfl | assumption) ⟨_, _, rfl⟩ (Nat.le_of_ble_eq_true rfl) ⟨Nat.le_refl _, Nat.le_refl _⟩ (fun r24 I24 R24 c24 => ?_)
        refine wp_canon (fun hI1 => ?_)
        obtain ⟨rfl, rfl, rfl⟩ := c24
        refine wp_iload_n (t := 15) rfl rfl ?_
        refine wp_icmp_ge (t := 16) (tgt := 46) rfl (by decide) (by first | assumption | exact hI1 _ _ | exact hI0 _ _ | exact zin_and _ _ | (unfold zin; omega) | (unfold zin at *; omega)) (by first | assumption | exact hI1 _ _ | exact hI0 _ _ | exact zin_and _ _ | (unfold zin; omega) | (unfold zin at *; omega)) (fun h28 => ?_) (fun h28 => ?_)
        · refine wp_iinc (t := 28) rfl rfl (by decide) rfl ?_
          refine wp_goto (t := 29) (tgt := 8) rfl (by decide) ?_
          exact ih (w + 1) z (by omega) (by omega) (by omega) (by rw [show w + 1 - 1 = w by omega, hq, if_neg (by omega)]) hb
        · refine wp_aload_n (t := 17) rfl rfl ?_
          refine wp_iload_n (t := 18) rfl rfl ?_
          refine wp_iload (t := 19) rfl rfl ?_
          refine wp_vi (ci := 3) (c_X3_takes (d := d) hp hW hn ⟨hc.1, by omega⟩ ⟨by omega, by omega⟩ ⟨by omega, by omega⟩ ⟨by omega, by omega⟩) (t := 20) rfl kX3_47 rfl rfl (by omega) (by first | rfl | assumption) ⟨_, _, rfl⟩ (Nat.le_of_ble_eq_true rfl) ⟨Nat.le_refl _, Nat.le_refl _⟩ (fun r35 I35 R35 c35 => ?_)
          refine wp_canon (fun hI2 => ?_)
          obtain ⟨rfl, rfl, rfl⟩ := c35
          refine wp_istore_n (t := 21) rfl (by decide) rfl ?_
          refine wp_iload_n (t := 22) rfl rfl ?_
          refine wp_iconst (t := 23) rfl ?_
          refine wp_iload (t := 24) rfl rfl ?_
          refine wp_ishl (t := 25) rfl ?_
          refine wp_ior (t := 26) rfl ?_
          refine wp_istore_n (t := 27) rfl (by decide) rfl ?_
          refine wp_iinc (t := 28) rfl rfl (by decide) rfl ?_
          refine wp_goto (t := 29) (tgt := 8) rfl (by decide) ?_
          exact ih (w + 1) (zior z.1 (zishl 1 w), sT (cS I35 p) c w) (by omega) (by omega) (by omega) (by rw [show w + 1 - 1 = w by omega, hq, if_pos (by omega)]) (by show 0 ≤ sT (cS I35 p) c w ∧ sT (cS I35 p) c w ≤ 1000000; omega)
  refine wp_ls (ls' := [some (zR p), some (zI c), none, none, none]) rfl ?_
  refine wp_iconst (t := 0) rfl ?_
  refine wp_istore_n (t := 1) rfl (by decide) rfl ?_
  refine wp_ldc (1000000) (t := 2) rfl (wsL_law_r20_l (List.mem_of_getElem? (i := 7) rfl)) (by decide) ?_
  refine wp_istore_n (t := 3) rfl (by decide) rfl ?_
  refine wp_iconst (t := 4) rfl ?_
  refine wp_istore (t := 5) rfl (by decide) rfl ?_
  exact key _ 1 (0, 1000000) (by omega) (by omega) rfl rfl (by decide)
set_option maxHeartbeats 4000000 in
set_option maxRecDepth 100000 in
theorem c_X3_writeTo {G : zG} {d n : Nat} {I : zMem} {R : zRef} {p r : Nat} (hp : p = 64 ∨ p = 86) (hW : zWir n R) (hn : 115 ≤ n) (hr : r < n) (hlr : zlay r = (20, 24)) : MT G mX3_writeTo (d + 1) 0 0 [zR p, zR r] n I R (zP0 (fun I' R' => I' = zwr I p r ∧ R' = R)) := by
  refine MT.of (by decide +kernel) tX3_writeTo_ok (Nat.le_of_ble_eq_true rfl) (fun hI0 => ?_)
  obtain ⟨hl0, hl1, hl2, hl3, hl4, hl5, hp1⟩ := zpl hp
  obtain ⟨hr0, hr1, hr2, hr3, hr4, hr5⟩ := zpr hp hW hn
  refine wp_ls (ls' := [some (zR p), some (zR r)]) rfl ?_
  refine wp_aload_n (t := 0) rfl rfl ?_
  refine wp_alen (t := 1) rfl (by omega) (Or.inl rfl) hlr rfl ?_
  refine wp_bipush (t := 2) rfl (by decide) ?_
  refine wp_icmp_ge (t := 3) (tgt := 8) rfl (by decide) (by first | assumption | exact hI0 _ _ | exact zin_and _ _ | (unfold zin; omega) | (unfold zin at *; omega)) (by first | assumption | exact hI0 _ _ | exact zin_and _ _ | (unfold zin; omega) | (unfold zin at *; omega)) (fun h4 => ?_) (fun h4 => ?_)
  · refine wp_aload_n (t := 5) rfl rfl ?_
    refine wp_getR (t := 6) (ji := 1) rfl fX3_9 rfl rfl (by omega) (by first | rfl | assumption) (by first | exact hW _ _ _ (by omega) rfl | assumption) ?_
    refine wp_iconst (t := 7) rfl ?_
    refine wp_aload_n (t := 8) rfl rfl ?_
    refine wp_iconst (t := 9) rfl ?_
    refine wp_bipush (t := 10) rfl (by decide) ?_
    refine wp_copy (t := 11) rfl (wsL_law_r26_l (List.mem_of_getElem? (i := 2) rfl)) (by omega) (by first | rfl | assumption) (by omega) (by first | rfl | assumption) (by omega) (by omega) (by omega) (by omega) (by omega) (by decide) (by decide) (Nat.le_of_ble_eq_true rfl) ?_
    refine wp_canon (fun hI1 => ?_)
    refine wp_aload_n (t := 12) rfl rfl ?_
    refine wp_getR (t := 13) (ji := 2) rfl fX3_15 rfl rfl (by omega) (by first | rfl | assumption) (by first | exact hW _ _ _ (by omega) rfl | assumption) ?_
    refine wp_iconst (t := 14) rfl ?_
    refine wp_aload_n (t := 15) rfl rfl ?_
    refine wp_bipush (t := 16) rfl (by decide) ?_
    refine wp_bipush (t := 17) rfl (by decide) ?_
    refine wp_copy (t := 18) rfl (wsL_law_r26_l (List.mem_of_getElem? (i := 2) rfl)) (by omega) (by first | rfl | assumption) (by omega) (by first | rfl | assumption) (by omega) (by omega) (by omega) (by omega) (by omega) (by decide) (by decide) (Nat.le_of_ble_eq_true rfl) ?_
    refine wp_canon (fun hI2 => ?_)
    refine wp_aload_n (t := 19) rfl rfl ?_
    refine wp_getR (t := 20) (ji := 3) rfl fX3_18 rfl rfl (by omega) (by first | rfl | assumption) (by first | exact hW _ _ _ (by omega) rfl | assumption) ?_
    refine wp_iconst (t := 21) rfl ?_
    refine wp_aload_n (t := 22) rfl rfl ?_
    refine wp_bipush (t := 23) rfl (by decide) ?_
    refine wp_bipush (t := 24) rfl (by decide) ?_
    refine wp_copy (t := 25) rfl (wsL_law_r26_l (List.mem_of_getElem? (i := 2) rfl)) (by omega) (by first | rfl | assumption) (by omega) (by first | rfl | assumption) (by omega) (by omega) (by omega) (by omega) (by omega) (by decide) (by decide) (Nat.le_of_ble_eq_true rfl) ?_
    refine wp_canon (fun hI3 => ?_)
    refine wp_aload_n (t := 26) rfl rfl ?_
    refine wp_getR (t := 27) (ji := 4) rfl fX3_21 rfl rfl (by omega) (by first | rfl | assumption) (by first | exact hW _ _ _ (by omega) rfl | assumption) ?_
    refine wp_iconst (t := 28) rfl ?_
    refine wp_aload_n (t := 29) rfl rfl ?_
    refine wp_bipush (t := 30) rfl (by decide) ?_
    refine wp_bipush (t := 31) rfl (by decide) ?_
    refine wp_copy (t := 32) rfl (wsL_law_r26_l (List.mem_of_getElem? (i := 2) rfl)) (by omega) (by first | rfl | assumption) (by omega) (by first | rfl | assumption) (by omega) (by omega) (by omega) (by omega) (by omega) (by decide) (by decide) (Nat.le_of_ble_eq_true rfl) ?_
    refine wp_canon (fun hI4 => ?_)
    refine wp_return (t := 33) rfl rfl ?_
    exact ⟨rfl, rfl, rfl⟩
  · refine wp_return (t := 4) rfl rfl ?_
    exact absurd h4 (by decide)
set_option maxHeartbeats 4000000 in
set_option maxRecDepth 100000 in
theorem c_X3_readFrom {G : zG} {d n : Nat} {I : zMem} {R : zRef} {p r : Nat} (hp : p = 64 ∨ p = 86) (hW : zWir n R) (hn : 115 ≤ n) (hr : r < n) (hlr : zlay r = (20, 24)) : MT G mX3_readFrom (d + 1) 0 0 [zR p, zR r] n I R (zP0 (fun I' R' => I' = zrd I p r ∧ R' = R)) := by
  refine MT.of (by decide +kernel) tX3_readFrom_ok (Nat.le_of_ble_eq_true rfl) (fun hI0 => ?_)
  obtain ⟨hl0, hl1, hl2, hl3, hl4, hl5, hp1⟩ := zpl hp
  obtain ⟨hr0, hr1, hr2, hr3, hr4, hr5⟩ := zpr hp hW hn
  refine wp_ls (ls' := [some (zR p), some (zR r)]) rfl ?_
  refine wp_aload_n (t := 0) rfl rfl ?_
  refine wp_alen (t := 1) rfl (by omega) (Or.inl rfl) hlr rfl ?_
  refine wp_bipush (t := 2) rfl (by decide) ?_
  refine wp_icmp_ge (t := 3) (tgt := 8) rfl (by decide) (by first | assumption | exact hI0 _ _ | exact zin_and _ _ | (unfold zin; omega) | (unfold zin at *; omega)) (by first | assumption | exact hI0 _ _ | exact zin_and _ _ | (unfold zin; omega) | (unfold zin at *; omega)) (fun h4 => ?_) (fun h4 => ?_)
  · refine wp_aload_n (t := 5) rfl rfl ?_
    refine wp_iconst (t := 6) rfl ?_
    refine wp_aload_n (t := 7) rfl rfl ?_
    refine wp_getR (t := 8) (ji := 1) rfl fX3_9 rfl rfl (by omega) (by first | rfl | assumption) (by first | exact hW _ _ _ (by omega) rfl | assumption) ?_
    refine wp_iconst (t := 9) rfl ?_
    refine wp_bipush (t := 10) rfl (by decide) ?_
    refine wp_copy (t := 11) rfl (wsL_law_r26_l (List.mem_of_getElem? (i := 2) rfl)) (by omega) (by first | rfl | assumption) (by omega) (by first | rfl | assumption) (by omega) (by omega) (by omega) (by omega) (by omega) (by decide) (by decide) (Nat.le_of_ble_eq_true rfl) ?_
    refine wp_canon (fun hI1 => ?_)
    refine wp_aload_n (t := 12) rfl rfl ?_
    refine wp_bipush (t := 13) rfl (by decide) ?_
    refine wp_aload_n (t := 14) rfl rfl ?_
    refine wp_getR (t := 15) (ji := 2) rfl fX3_15 rfl rfl (by omega) (by first | rfl | assumption) (by first | exact hW _ _ _ (by omega) rfl | assumption) ?_
    refine wp_iconst (t := 16) rfl ?_
    refine wp_bipush (t := 17) rfl (by decide) ?_
    refine wp_copy (t := 18) rfl (wsL_law_r26_l (List.mem_of_getElem? (i := 2) rfl)) (by omega) (by first | rfl | assumption) (by omega) (by first | rfl | assumption) (by omega) (by omega) (by omega) (by omega) (by omega) (by decide) (by decide) (Nat.le_of_ble_eq_true rfl) ?_
    refine wp_canon (fun hI2 => ?_)
    refine wp_aload_n (t := 19) rfl rfl ?_
    refine wp_bipush (t := 20) rfl (by decide) ?_
    refine wp_aload_n (t := 21) rfl rfl ?_
    refine wp_getR (t := 22) (ji := 3) rfl fX3_18 rfl rfl (by omega) (by first | rfl | assumption) (by first | exact hW _ _ _ (by omega) rfl | assumption) ?_
    refine wp_iconst (t := 23) rfl ?_
    refine wp_bipush (t := 24) rfl (by decide) ?_
    refine wp_copy (t := 25) rfl (wsL_law_r26_l (List.mem_of_getElem? (i := 2) rfl)) (by omega) (by first | rfl | assumption) (by omega) (by first | rfl | assumption) (by omega) (by omega) (by omega) (by omega) (by omega) (by decide) (by decide) (Nat.le_of_ble_eq_true rfl) ?_
    refine wp_canon (fun hI3 => ?_)
    refine wp_aload_n (t := 26) rfl rfl ?_
    refine wp_bipush (t := 27) rfl (by decide) ?_
    refine wp_aload_n (t := 28) rfl rfl ?_
    refine wp_getR (t := 29) (ji := 4) rfl fX3_21 rfl rfl (by omega) (by first | rfl | assumption) (by first | exact hW _ _ _ (by omega) rfl | assumption) ?_
    refine wp_iconst (t := 30) rfl ?_
    refine wp_bipush (t := 31) rfl (by decide) ?_
    refine wp_copy (t := 32) rfl (wsL_law_r26_l (List.mem_of_getElem? (i := 2) rfl)) (by omega) (by first | rfl | assumption) (by omega) (by first | rfl | assumption) (by omega) (by omega) (by omega) (by omega) (by omega) (by decide) (by decide) (Nat.le_of_ble_eq_true rfl) ?_
    refine wp_canon (fun hI4 => ?_)
    refine wp_return (t := 33) rfl rfl ?_
    exact ⟨rfl, rfl, rfl⟩
  · refine wp_return (t := 4) rfl rfl ?_
    exact absurd h4 (by decide)
