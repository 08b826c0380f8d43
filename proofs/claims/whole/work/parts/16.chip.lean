/-! the chip's own methods -/
set_option maxHeartbeats 4000000 in
set_option maxRecDepth 100000 in
theorem c_X2_clearLoads {G : zG} {d n : Nat} {I : zMem} {R : zRef} (hW : zWir n R) (hn : 115 ≤ n) : MT G mX2_clearLoads d 0 0 [zR 34] n I R (zP0 (fun I' R' => ((∀ b : Nat, b ≠ 62 → I' b = I b) ∧ ∀ l : Int, 0 ≤ l → l < 8 → I' 62 l = 0) ∧ R' = R)) := by
  refine MT.of (by decide +kernel) tX2_clearLoads_ok (Nat.le_of_ble_eq_true rfl) (fun hI0 => ?_)
  have key : ∀ (m : Nat) (l : Int) (J : zMem), 0 ≤ l → l ≤ 8 → (8 - l).toNat = m → (∀ b : Nat, b ≠ 62 → J b = I b) → (∀ x : Int, 0 ≤ x → x < l → J 62 x = 0) → WP G mX2_clearLoads d 0 0 0 0 2 [some (zR 34), some (zI l)] [] n J R (zP0 (fun I' R' => ((∀ b : Nat, b ≠ 62 → I' b = I b) ∧ ∀ l : Int, 0 ≤ l → l < 8 → I' 62 l = 0) ∧ R' = R)) := by
    intro m
    induction m with
    | zero =>
      intro l J h0 h1 hm hf hz
      refine wp_canon (fun hI0 => ?_)
      refine wp_iload_n (t := 2) rfl rfl ?_
      refine wp_aload_n (t := 3) rfl rfl ?_
      refine wp_getR (t := 4) (ji := 13) rfl fX2_41 rfl rfl (by omega) (by first | rfl | assumption) (by first | exact hW _ _ _ (by omega) rfl | assumption) ?_
      refine wp_alen (t := 5) rfl (by omega) (Or.inl rfl) rfl rfl ?_
      refine wp_icmp_ge (t := 6) (tgt := 24) rfl (by decide) (by first | assumption | exact hI0 _ _ | exact zin_and _ _ | (unfold zin; omega) | (unfold zin at *; omega)) (by first | assumption | exact hI0 _ _ | exact zin_and _ _ | (unfold zin; omega) | (unfold zin at *; omega)) (fun h8 => ?_) (fun h8 => ?_)
      · refine wp_return (t := 14) rfl rfl ?_
        exact ⟨rfl, ⟨hf, fun x x0 x1 => hz x x0 (by omega)⟩, rfl⟩
      · exact absurd h8 (by omega)
    | succ m ih =>
      intro l J h0 h1 hm hf hz
      refine wp_canon (fun hI0 => ?_)
      refine wp_iload_n (t := 2) rfl rfl ?_
      refine wp_aload_n (t := 3) rfl rfl ?_
      refine wp_getR (t := 4) (ji := 13) rfl fX2_41 rfl rfl (by omega) (by first | rfl | assumption) (by first | exact hW _ _ _ (by omega) rfl | assumption) ?_
      refine wp_alen (t := 5) rfl (by omega) (Or.inl rfl) rfl rfl ?_
      refine wp_icmp_ge (t := 6) (tgt := 24) rfl (by decide) (by first | assumption | exact hI0 _ _ | exact zin_and _ _ | (unfold zin; omega) | (unfold zin at *; omega)) (by first | assumption | exact hI0 _ _ | exact zin_and _ _ | (unfold zin; omega) | (unfold zin at *; omega)) (fun h8 => ?_) (fun h8 => ?_)
      · exact absurd h8 (by omega)
      · refine wp_aload_n (t := 7) rfl rfl ?_
        refine wp_getR (t := 8) (ji := 13) rfl fX2_41 rfl rfl (by omega) (by first | rfl | assumption) (by first | exact hW _ _ _ (by omega) rfl | assumption) ?_
        refine wp_iload_n (t := 9) rfl rfl ?_
        refine wp_iconst (t := 10) rfl ?_
        refine wp_iastore (t := 11) rfl (by omega) (by first | rfl | assumption) (by omega) (by omega) (by omega) (by first | assumption | exact hI0 _ _ | exact zin_and _ _ | (unfold zin; omega) | (unfold zin at *; omega)) ?_
        refine wp_canon (fun hI1 => ?_)
        refine wp_iinc (t := 12) rfl rfl (by decide) rfl ?_
        refine wp_goto (t := 13) (tgt := 2) rfl (by decide) ?_
        refine ih (l + 1) _ (by omega) (by omega) (by omega) (fun b hb => by rw [zu_ne hb]; exact hf b hb) (fun x x0 x1 => ?_)
        by_cases e : x = l
        · rw [e]; exact zu_eq
        · rw [zu_ni e]; exact hz x x0 (by omega)
  refine wp_ls (ls' := [some (zR 34), none]) rfl ?_
  refine wp_iconst (t := 0) rfl ?_
  refine wp_istore_n (t := 1) rfl (by decide) rfl ?_
  exact key _ 0 I (by omega) (by omega) rfl (fun _ _ => rfl) (fun x x0 x1 => absurd x1 (by omega))
set_option maxHeartbeats 4000000 in
set_option maxRecDepth 100000 in
theorem c_X2_leastLoaded {G : zG} {d n : Nat} {I : zMem} {R : zRef} {w : Int} (hW : zWir n R) (hn : 115 ≤ n) (hw : 1 ≤ w ∧ w ≤ 8) : MT G mX2_leastLoaded d 0 0 [zR 34, zI w] n I R (zP1 (fun r I' R' => r = zamin (I 62) w.toNat ∧ I' = I ∧ R' = R)) := by
  refine MT.of (by decide +kernel) tX2_leastLoaded_ok (Nat.le_of_ble_eq_true rfl) (fun hI0 => ?_)
  have key : ∀ (m : Nat) (l s : Int), 1 ≤ l → l ≤ w → (w - l).toNat = m → s = zamin (I 62) l.toNat → WP G mX2_leastLoaded d 0 0 0 0 4 [some (zR 34), some (zI w), some (zI s), some (zI l)] [] n I R (zP1 (fun r I' R' => r = zamin (I 62) w.toNat ∧ I' = I ∧ R' = R)) := by
    intro m
    induction m with
    | zero =>
      intro l s h0 h1 hm hs
      refine wp_iload_n (t := 4) rfl rfl ?_
      refine wp_iload_n (t := 5) rfl rfl ?_
      refine wp_icmp_ge (t := 6) (tgt := 32) rfl (by decide) (by first | assumption | exact hI0 _ _ | exact zin_and _ _ | (unfold zin; omega) | (unfold zin at *; omega)) (by first | assumption | exact hI0 _ _ | exact zin_and _ _ | (unfold zin; omega) | (unfold zin at *; omega)) (fun h6 => ?_) (fun h6 => ?_)
      · refine wp_iload_n (t := 20) rfl rfl ?_
        refine wp_ireturn (t := 21) rfl rfl ?_
        exact ⟨_, rfl, by rw [hs, show l = w by omega], rfl, rfl⟩
      · exact absurd h6 (by omega)
    | succ m ih =>
      intro l s h0 h1 hm hs
      have hb := zamin_b (I 62) l.toNat (by omega)
      rw [← hs] at hb
      refine wp_iload_n (t := 4) rfl rfl ?_
      refine wp_iload_n (t := 5) rfl rfl ?_
      refine wp_icmp_ge (t := 6) (tgt := 32) rfl (by decide) (by first | assumption | exact hI0 _ _ | exact zin_and _ _ | (unfold zin; omega) | (unfold zin at *; omega)) (by first | assumption | exact hI0 _ _ | exact zin_and _ _ | (unfold zin; omega) | (unfold zin at *; omega)) (fun h6 => ?_) (fun h6 => ?_)
      · exact absurd h6 (by omega)
      · refine wp_aload_n (t := 7) rfl rfl ?_
        refine wp_getR (t := 8) (ji := 13) rfl fX2_41 rfl rfl (by omega) (by first | rfl | assumption) (by first | exact hW _ _ _ (by omega) rfl | assumption) ?_
        refine wp_iload_n (t := 9) rfl rfl ?_
        refine wp_iaload (t := 10) rfl (by omega) (by first | rfl | assumption) (by omega) (by omega) (by omega) ?_
        refine wp_aload_n (t := 11) rfl rfl ?_
        refine wp_getR (t := 12) (ji := 13) rfl fX2_41 rfl rfl (by omega) (by first | rfl | assumption) (by first | exact hW _ _ _ (by omega) rfl | assumption) ?_
        refine wp_iload_n (t := 13) rfl rfl ?_
        refine wp_iaload (t := 14) rfl (by omega) (by first | rfl | assumption) (by omega) (by omega) (by omega) ?_
        refine wp_icmp_ge (t := 15) (tgt := 26) rfl (by decide) (by first | assumption | exact hI0 _ _ | exact zin_and _ _ | (unfold zin; omega) | (unfold zin at *; omega)) (by first | assumption | exact hI0 _ _ | exact zin_and _ _ | (unfold zin; omega) | (unfold zin at *; omega)) (fun h21 => ?_) (fun h21 => ?_)
        · refine wp_iinc (t := 18) rfl rfl (by decide) rfl ?_
          refine wp_goto (t := 19) (tgt := 4) rfl (by decide) ?_
          refine ih (l + 1) _ (by omega) (by omega) (by omega) ?_
          rw [zamin_succ _ (by omega), ← hs]
          first | rw [if_pos (by omega)] | rw [if_neg (by omega)]
        · refine wp_iload_n (t := 16) rfl rfl ?_
          refine wp_istore_n (t := 17) rfl (by decide) rfl ?_
          refine wp_iinc (t := 18) rfl rfl (by decide) rfl ?_
          refine wp_goto (t := 19) (tgt := 4) rfl (by decide) ?_
          refine ih (l + 1) _ (by omega) (by omega) (by omega) ?_
          rw [zamin_succ _ (by omega), ← hs]
          first | rw [if_pos (by omega)] | rw [if_neg (by omega)]
  refine wp_ls (ls' := [some (zR 34), some (zI w), none, none]) rfl ?_
  refine wp_iconst (t := 0) rfl ?_
  refine wp_istore_n (t := 1) rfl (by decide) rfl ?_
  refine wp_iconst (t := 2) rfl ?_
  refine wp_istore_n (t := 3) rfl (by decide) rfl ?_
  exact key _ 1 0 (by omega) (by omega) rfl (by show (0 : Int) = if I 62 0 < I 62 0 then 0 else 0; split <;> rfl)
/-- the chains of a core are told so -/
def zLe (I : zMem) (c : Int) : Prop := (1 ≤ I 38 c ∧ I 38 c ≤ 6) ∧ ∀ i : Int, 0 ≤ i → i < I 38 c → 1 ≤ I (40 + c.toNat) i ∧ I (40 + c.toNat) i ≤ 9
set_option maxHeartbeats 4000000 in
set_option maxRecDepth 100000 in
theorem c_X2_orderChains {G : zG} {d n : Nat} {I : zMem} {R : zRef} {c : Int} (hW : zWir n R) (hn : 115 ≤ n) (hc : 0 ≤ c ∧ c < 6) (hle : zLe I c) : MT G mX2_orderChains d 0 0 [zR 34, zI c] n I R (zP0 (fun I' R' => ((∀ b : Nat, b ≠ 63 → I' b = I b) ∧ zSrt (I (40 + c.toNat)) (I' 63) (I 38 c)) ∧ R' = R)) := by
  refine MT.of (by decide +kernel) tX2_orderChains_ok (Nat.le_of_ble_eq_true rfl) (fun hI0 => ?_)
  obtain ⟨hch1, hlen⟩ := hle
  have hrow : R 39 c = some (40 + c.toNat) := zrowR (m := 6) hW (by omega) (by decide) hc.1 (by omega)
  have hlrow : zlay (40 + c.toNat) = (20, 6) := zrowL (m := 6) (by decide) (by omega) hc.1
  have key : ∀ (m : Nat) (i : Int) (J : zMem) (x3 : Option zV), 0 ≤ i → i ≤ I 38 c → (I 38 c - i).toNat = m → (∀ b : Nat, b ≠ 63 → J b = I b) → zSrt (I (40 + c.toNat)) (J 63) i → WP G mX2_orderChains d 0 0 0 0 2 [some (zR 34), some (zI c), some (zI i), x3] [] n J R (zP0 (fun I' R' => ((∀ b : Nat, b ≠ 63 → I' b = I b) ∧ zSrt (I (40 + c.toNat)) (I' 63) (I 38 c)) ∧ R' = R)) := by
    intro m
    induction m with
    | zero =>
      intro i J x3 h0 h1 hm hf hs
      have e38 : J 38 = I 38 := hf 38 (by decide)
      have e39 : J (40 + c.toNat) = I (40 + c.toNat) := hf _ (by omega)
      refine wp_canon (fun hI0 => ?_)
      refine wp_iload_n (t := 2) rfl rfl ?_
      refine wp_aload_n (t := 3) rfl rfl ?_
      refine wp_getR (t := 4) (ji := 7) rfl fX2_21 rfl rfl (by omega) (by first | rfl | assumption) (by first | exact hW _ _ _ (by omega) rfl | assumption) ?_
      refine wp_iload_n (t := 5) rfl rfl ?_
      refine wp_iaload (t := 6) rfl (by omega) (by first | rfl | assumption) (by omega) (by omega) (by omega) ?_
      rw [e38]
      refine wp_icmp_ge (t := 7) (tgt := 77) rfl (by decide) (by first | assumption | exact hI0 _ _ | exact zin_and _ _ | (unfold zin; omega) | (unfold zin at *; omega)) (by first | assumption | exact hI0 _ _ | exact zin_and _ _ | (unfold zin; omega) | (unfold zin at *; omega)) (fun h9 => ?_) (fun h9 => ?_)
      · refine wp_return (t := 49) rfl rfl ?_
        refine ⟨rfl, ⟨hf, ?_⟩, rfl⟩
        rw [show i = I 38 c by omega] at hs
        exact hs
      · exact absurd h9 (by omega)
    | succ m ih =>
      intro i J x3 h0 h1 hm hf hs
      have e38 : J 38 = I 38 := hf 38 (by decide)
      have e39 : J (40 + c.toNat) = I (40 + c.toNat) := hf _ (by omega)
      obtain ⟨s1, s2, s3⟩ := id hs
      have inner : ∀ (k : Nat) (q : Int) (K : zMem), 0 ≤ q → q ≤ i → q.toNat = k → i < I 38 c → (∀ b : Nat, b ≠ 63 → K b = I b) → (∀ s : Int, 0 ≤ s → s < q → K 63 s = J 63 s) → (∀ s : Int, q < s → s ≤ i → K 63 s = J 63 (s - 1)) → (∀ s : Int, q ≤ s → s < i → I (40 + c.toNat) (J 63 s) < I (40 + c.toNat) i) → WP G mX2_orderChains d 0 0 0 0 14 [some (zR 34), some (zI c), some (zI i), some (zI q)] [] n K R (zP0 (fun I' R' => ((∀ b : Nat, b ≠ 63 → I' b = I b) ∧ zSrt (I (40 + c.toNat)) (I' 63) (I 38 c)) ∧ R' = R)) := by
        intro k
        induction k with
        | zero =>
          intro q K q0 q1 qk hi9 kf k1 k2 k3
          refine wp_canon (fun hI0 => ?_)
          refine wp_iload_n (t := 10) rfl rfl ?_
          refine wp_if_le (t := 11) (tgt := 64) rfl (by decide) (by first | assumption | exact hI0 _ _ | exact zin_and _ _ | (unfold zin; omega) | (unfold zin at *; omega)) (fun h15 => ?_) (fun h15 => ?_)
          · refine wp_aload_n (t := 42) rfl rfl ?_
            refine wp_getR (t := 43) (ji := 14) rfl fX2_44 rfl rfl (by omega) (by first | rfl | assumption) (by first | exact hW _ _ _ (by omega) rfl | assumption) ?_
            refine wp_iload_n (t := 44) rfl rfl ?_
            refine wp_iload_n (t := 45) rfl rfl ?_
            refine wp_iastore (t := 46) rfl (by omega) (by first | rfl | assumption) (by omega) (by omega) (by omega) (by first | assumption | exact hI0 _ _ | exact zin_and _ _ | (unfold zin; omega) | (unfold zin at *; omega)) ?_
            refine wp_canon (fun hI1 => ?_)
            refine wp_iinc (t := 47) rfl rfl (by decide) rfl ?_
            refine wp_goto (t := 48) (tgt := 2) rfl (by decide) ?_
            refine ih (i + 1) _ _ (by omega) (by omega) (by omega) (fun b hb => by rw [zu_ne hb]; exact kf b hb) (zSrt_ins h0 hs q0 q1 k3 (Or.inl (by omega)) (fun s g0 g1 => by rw [zu_ni (by omega)]; exact k1 s g0 g1) zu_eq (fun s g0 g1 => by rw [zu_ni (by omega)]; exact k2 s g0 g1))
          · exact absurd h15 (by omega)
        | succ k ihk =>
          intro q K q0 q1 qk hi9 kf k1 k2 k3
          refine wp_canon (fun hI0 => ?_)
          have g1 := k1 (q - 1) (by omega) (by omega)
          have g2 := s1 (q - 1) (by omega) (by omega)
          have e39' : K (40 + c.toNat) = I (40 + c.toNat) := kf _ (by omega)
          refine wp_iload_n (t := 10) rfl rfl ?_
          refine wp_if_le (t := 11) (tgt := 64) rfl (by decide) (by first | assumption | exact hI0 _ _ | exact zin_and _ _ | (unfold zin; omega) | (unfold zin at *; omega)) (fun h15 => ?_) (fun h15 => ?_)
          · exact absurd h15 (by omega)
          · refine wp_aload_n (t := 12) rfl rfl ?_
            refine wp_getR (t := 13) (ji := 8) rfl fX2_26 rfl rfl (by omega) (by first | rfl | assumption) (by first | exact hW _ _ _ (by omega) rfl | assumption) ?_
            refine wp_iload_n (t := 14) rfl rfl ?_
            refine wp_aaload (t := 15) rfl (by omega) (by first | rfl | assumption) (by omega) (by omega) (by omega) (by first | exact hW _ _ _ (by omega) rfl | assumption) ?_
            refine wp_aload_n (t := 16) rfl rfl ?_
            refine wp_getR (t := 17) (ji := 14) rfl fX2_44 rfl rfl (by omega) (by first | rfl | assumption) (by first | exact hW _ _ _ (by omega) rfl | assumption) ?_
            refine wp_iload_n (t := 18) rfl rfl ?_
            refine wp_iconst (t := 19) rfl ?_
            refine wp_isub (t := 20) rfl ?_
            refine wp_iaload (t := 21) rfl (by omega) (by first | rfl | assumption) (by omega) (by omega) (by omega) ?_
            rw [g1]
            refine wp_iaload (t := 22) rfl (by omega) (by first | rfl | assumption) (by omega) (by omega) (by omega) ?_
            refine wp_aload_n (t := 23) rfl rfl ?_
            refine wp_getR (t := 24) (ji := 8) rfl fX2_26 rfl rfl (by omega) (by first | rfl | assumption) (by first | exact hW _ _ _ (by omega) rfl | assumption) ?_
            refine wp_iload_n (t := 25) rfl rfl ?_
            refine wp_aaload (t := 26) rfl (by omega) (by first | rfl | assumption) (by omega) (by omega) (by omega) (by first | exact hW _ _ _ (by omega) rfl | assumption) ?_
            refine wp_iload_n (t := 27) rfl rfl ?_
            refine wp_iaload (t := 28) rfl (by omega) (by first | rfl | assumption) (by omega) (by omega) (by omega) ?_
            rw [e39']
            refine wp_icmp_ge (t := 29) (tgt := 64) rfl (by decide) (by rw [← e39']; exact hI0 _ _) (by rw [← e39']; exact hI0 _ _) (fun h41 => ?_) (fun h41 => ?_)
            · refine wp_aload_n (t := 42) rfl rfl ?_
              refine wp_getR (t := 43) (ji := 14) rfl fX2_44 rfl rfl (by omega) (by first | rfl | assumption) (by first | exact hW _ _ _ (by omega) rfl | assumption) ?_
              refine wp_iload_n (t := 44) rfl rfl ?_
              refine wp_iload_n (t := 45) rfl rfl ?_
              refine wp_iastore (t := 46) rfl (by omega) (by first | rfl | assumption) (by omega) (by omega) (by omega) (by first | assumption | exact hI0 _ _ | exact zin_and _ _ | (unfold zin; omega) | (unfold zin at *; omega)) ?_
              refine wp_canon (fun hI1 => ?_)
              refine wp_iinc (t := 47) rfl rfl (by decide) rfl ?_
              refine wp_goto (t := 48) (tgt := 2) rfl (by decide) ?_
              refine ih (i + 1) _ _ (by omega) (by omega) (by omega) (fun b hb => by rw [zu_ne hb]; exact kf b hb) (zSrt_ins h0 hs q0 q1 k3 (Or.inr (by omega)) (fun s g0 g1 => by rw [zu_ni (by omega)]; exact k1 s g0 g1) zu_eq (fun s g0 g1 => by rw [zu_ni (by omega)]; exact k2 s g0 g1))
            · refine wp_aload_n (t := 30) rfl rfl ?_
              refine wp_getR (t := 31) (ji := 14) rfl fX2_44 rfl rfl (by omega) (by first | rfl | assumption) (by first | exact hW _ _ _ (by omega) rfl | assumption) ?_
              refine wp_iload_n (t := 32) rfl rfl ?_
              refine wp_aload_n (t := 33) rfl rfl ?_
              refine wp_getR (t := 34) (ji := 14) rfl fX2_44 rfl rfl (by omega) (by first | rfl | assumption) (by first | exact hW _ _ _ (by omega) rfl | assumption) ?_
              refine wp_iload_n (t := 35) rfl rfl ?_
              refine wp_iconst (t := 36) rfl ?_
              refine wp_isub (t := 37) rfl ?_
              refine wp_iaload (t := 38) rfl (by omega) (by first | rfl | assumption) (by omega) (by omega) (by omega) ?_
              rw [g1]
              refine wp_iastore (t := 39) rfl (by omega) (by first | rfl | assumption) (by omega) (by omega) (by omega) (by rw [← g1]; exact hI0 _ _) ?_
              refine wp_canon (fun hI1 => ?_)
              refine wp_iinc (t := 40) rfl rfl (by decide) rfl ?_
              refine wp_goto (t := 41) (tgt := 14) rfl (by decide) ?_
              refine ihk (q + -1) _ (by omega) (by omega) (by omega) hi9 (fun b hb => by rw [zu_ne hb]; exact kf b hb) (fun s g0 g1 => by rw [zu_ni (by omega)]; exact k1 s g0 (by omega)) (fun s g3 g4 => ?_) (fun s g3 g4 => ?_)
              · by_cases e : s = q
                · rw [e, zu_eq]
                · rw [zu_ni e]; exact k2 s (by omega) g4
              · by_cases e : s = q - 1
                · rw [e]; omega
                · exact k3 s (by omega) g4
      refine wp_canon (fun hI0 => ?_)
      refine wp_iload_n (t := 2) rfl rfl ?_
      refine wp_aload_n (t := 3) rfl rfl ?_
      refine wp_getR (t := 4) (ji := 7) rfl fX2_21 rfl rfl (by omega) (by first | rfl | assumption) (by first | exact hW _ _ _ (by omega) rfl | assumption) ?_
      refine wp_iload_n (t := 5) rfl rfl ?_
      refine wp_iaload (t := 6) rfl (by omega) (by first | rfl | assumption) (by omega) (by omega) (by omega) ?_
      rw [e38]
      refine wp_icmp_ge (t := 7) (tgt := 77) rfl (by decide) (by first | assumption | exact hI0 _ _ | exact zin_and _ _ | (unfold zin; omega) | (unfold zin at *; omega)) (by first | assumption | exact hI0 _ _ | exact zin_and _ _ | (unfold zin; omega) | (unfold zin at *; omega)) (fun h9 => ?_) (fun h9 => ?_)
      · exact absurd h9 (by omega)
      · refine wp_iload_n (t := 8) rfl rfl ?_
        refine wp_istore_n (t := 9) rfl (by decide) rfl ?_
        exact inner _ i J h0 (Int.le_refl _) rfl (by omega) hf (fun _ _ _ => rfl) (fun s g0 g1 => absurd g1 (by omega)) (fun s g0 g1 => absurd g1 (by omega))
  refine wp_ls (ls' := [some (zR 34), some (zI c), none, none]) rfl ?_
  refine wp_iconst (t := 0) rfl ?_
  refine wp_istore_n (t := 1) rfl (by decide) rfl ?_
  exact key _ 0 I _ (by omega) (by omega) rfl (fun _ _ => rfl) ⟨fun t t0 t1 => absurd t1 (by omega), fun s t s0 s1 t1 => absurd t1 (by omega), fun k k0 k1 => absurd k1 (by omega)⟩
