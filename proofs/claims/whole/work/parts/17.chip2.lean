theorem zamin_congr {f g : Int → Int} : ∀ {n : Nat}, (∀ i : Int, 0 ≤ i → i < n → f i = g i) → zamin f n = zamin g n := by
  intro n
  induction n with
  | zero => intro _; rfl
  | succ n ih =>
    intro h
    show (if f n < f (zamin f n) then (n : Int) else zamin f n) = (if g n < g (zamin g n) then (n : Int) else zamin g n)
    rw [ih (fun i h0 h1 => h i h0 (by omega)), h n (by omega) (by omega)]
    by_cases hn : n = 0
    · subst hn
      rw [show zamin g 0 = 0 from rfl, h 0 (by omega) (by omega)]
    · have := zamin_b g n (by omega)
      rw [h (zamin g n) this.1 (by omega)]
set_option maxHeartbeats 4000000 in
set_option maxRecDepth 100000 in
theorem c_X2_layAt {G : zG} {d n : Nat} {I : zMem} {R : zRef} {c w : Int} (hW : zWir n R) (hn : 115 ≤ n) (hc : 0 ≤ c ∧ c < 6) (hw : 1 ≤ w ∧ w ≤ 8) (hle : zLe I c) (hs : zSrt (I (40 + c.toNat)) (I 63) (I 38 c)) : MT G mX2_layAt (d + 1) 0 0 [zR 34, zI c, zI w] n I R (zP0 (fun I' R' => ((∀ b : Nat, b ≠ 62 → b ≠ 49 + c.toNat → b ≠ 56 + c.toNat → I' b = I b) ∧ (∀ j : Int, j ≠ w → I' (49 + c.toNat) j = I (49 + c.toNat) j) ∧ I' (49 + c.toNat) w = (zlp (I (40 + c.toNat)) (I 38 c).toNat w.toNat (I 38 c).toNat).2.2 ∧ (∀ j : Int, (j < w * 6 ∨ w * 6 + I 38 c ≤ j) → I' (56 + c.toNat) j = I (56 + c.toNat) j) ∧ (∀ i : Int, 0 ≤ i → i < I 38 c → I' (56 + c.toNat) (w * 6 + i) = (zlp (I (40 + c.toNat)) (I 38 c).toNat w.toNat (I 38 c).toNat).2.1 i)) ∧ R' = R)) := by
  refine MT.of (by decide +kernel) tX2_layAt_ok (Nat.le_of_ble_eq_true rfl) (fun hI0 => ?_)
  obtain ⟨hch1, hlen⟩ := hle
  have hw0 : 0 < w.toNat := by omega
  have hrow : R 39 c = some (40 + c.toNat) := zrowR (m := 6) hW (by omega) (by decide) hc.1 (by omega)
  have hlrow : zlay (40 + c.toNat) = (20, 6) := zrowL (m := 6) (by decide) (by omega) hc.1
  have hrow2 : R 48 c = some (49 + c.toNat) := zrowR (m := 6) hW (by omega) (by decide) hc.1 (by omega)
  have hlrow2 : zlay (49 + c.toNat) = (20, 9) := zrowL (m := 6) (by decide) (by omega) hc.1
  have hrow3 : R 55 c = some (56 + c.toNat) := zrowR (m := 6) hW (by omega) (by decide) hc.1 (by omega)
  have hlrow3 : zlay (56 + c.toNat) = (20, 54) := zrowL (m := 6) (by decide) (by omega) hc.1
  have hq := zlq_eq (len := I (40 + c.toNat)) (o := I 63) (n := (I 38 c).toNat) hw0 (by rw [Int.toNat_of_nonneg (by omega)]; exact hs) (I 38 c).toNat (Nat.le_refl _)
  have hbd := zlq_b (len := I (40 + c.toNat)) (o := I 63) (w := w.toNat) (n := I 38 c) hw0 hlen hs.1
  have hlaid := zlq_laid (len := I (40 + c.toNat)) (o := I 63) (w := w.toNat) hw0
  have key : ∀ (m : Nat) (t mo : Int) (J : zMem) (x5 x6 : Option zV), 0 ≤ t → t ≤ I 38 c → (I 38 c - t).toNat = m → (∀ b : Nat, b ≠ 62 → b ≠ 56 + c.toNat → J b = I b) → (∀ x : Int, 0 ≤ x → x < w → J 62 x = (zlq (I (40 + c.toNat)) (I 63) w.toNat t.toNat).1 x) → (∀ j : Int, J (56 + c.toNat) j = if (0 ≤ j - w * 6 ∧ j - w * 6 < I 38 c) ∧ 0 ≤ (zlq (I (40 + c.toNat)) (I 63) w.toNat t.toNat).2.1 (j - w * 6) then (zlq (I (40 + c.toNat)) (I 63) w.toNat t.toNat).2.1 (j - w * 6) else I (56 + c.toNat) j) → mo = (zlq (I (40 + c.toNat)) (I 63) w.toNat t.toNat).2.2 →
      WP G mX2_layAt (d + 1) 0 0 0 0 9 [some (zR 34), some (zI c), some (zI w), some (zI mo), some (zI t), x5, x6] [] n J R (zP0 (fun I' R' => ((∀ b : Nat, b ≠ 62 → b ≠ 49 + c.toNat → b ≠ 56 + c.toNat → I' b = I b) ∧ (∀ j : Int, j ≠ w → I' (49 + c.toNat) j = I (49 + c.toNat) j) ∧ I' (49 + c.toNat) w = (zlp (I (40 + c.toNat)) (I 38 c).toNat w.toNat (I 38 c).toNat).2.2 ∧ (∀ j : Int, (j < w * 6 ∨ w * 6 + I 38 c ≤ j) → I' (56 + c.toNat) j = I (56 + c.toNat) j) ∧ (∀ i : Int, 0 ≤ i → i < I 38 c → I' (56 + c.toNat) (w * 6 + i) = (zlp (I (40 + c.toNat)) (I 38 c).toNat w.toNat (I 38 c).toNat).2.1 i)) ∧ R' = R)) := by
    intro m
    induction m with
    | zero =>
      intro t mo J x5 x6 h0 h1 hm hf hld hla hmo
      have et : t.toNat = (I 38 c).toNat := by omega
      rw [et] at hld hla hmo
      have e38 : J 38 = I 38 := hf 38 (by decide) (by omega)
      have e49 : J (49 + c.toNat) = I (49 + c.toNat) := hf _ (by omega) (by omega)
      have hb2 := hbd (I 38 c).toNat (by omega)
      refine wp_canon (fun hI0 => ?_)
      refine wp_iload (t := 6) rfl rfl ?_
      refine wp_aload_n (t := 7) rfl rfl ?_
      refine wp_getR (t := 8) (ji := 7) rfl fX2_21 rfl rfl (by omega) (by first | rfl | assumption) (by first | exact hW _ _ _ (by omega) rfl | assumption) ?_
      refine wp_iload_n (t := 9) rfl rfl ?_
      refine wp_iaload (t := 10) rfl (by omega) (by first | rfl | assumption) (by omega) (by omega) (by omega) ?_
      rw [e38]
      refine wp_icmp_ge (t := 11) (tgt := 89) rfl (by decide) (by first | assumption | exact hI0 _ _ | exact zin_and _ _ | (unfold zin; omega) | (unfold zin at *; omega)) (by first | assumption | exact hI0 _ _ | exact zin_and _ _ | (unfold zin; omega) | (unfold zin at *; omega)) (fun h17 => ?_) (fun h17 => ?_)
      · refine wp_aload_n (t := 54) rfl rfl ?_
        refine wp_getR (t := 55) (ji := 11) rfl fX2_35 rfl rfl (by omega) (by first | rfl | assumption) (by first | exact hW _ _ _ (by omega) rfl | assumption) ?_
        refine wp_iload_n (t := 56) rfl rfl ?_
        refine wp_aaload (t := 57) rfl (by omega) (by first | rfl | assumption) (by omega) (by omega) (by omega) (by first | exact hW _ _ _ (by omega) rfl | assumption) ?_
        refine wp_iload_n (t := 58) rfl rfl ?_
        refine wp_iload_n (t := 59) rfl rfl ?_
        refine wp_iastore (t := 60) rfl (by omega) (by first | rfl | assumption) (by omega) (by omega) (by omega) (by first | assumption | exact hI0 _ _ | exact zin_and _ _ | (unfold zin; omega) | (unfold zin at *; omega)) ?_
        refine wp_canon (fun hI1 => ?_)
        refine wp_return (t := 61) rfl rfl ?_
        refine ⟨rfl, ⟨fun b g1 g2 g3 => by rw [zu_ne g2]; exact hf b g1 g3, fun j g1 => by rw [zu_ni g1, e49], ?_, fun j g1 => ?_, fun i i0 i1 => ?_⟩, rfl⟩
        · rw [zu_eq, hq, hmo]
        · rw [zu_ne (by omega), hla j, if_neg (fun g => by have := g.1; omega)]
        · have hz9 : 0 ≤ (zlq (I (40 + c.toNat)) (I 63) w.toNat (I 38 c).toNat).2.1 i := by
            obtain ⟨s, s0, s1, s2⟩ := hs.2.2 i i0 i1
            exact (hlaid (I 38 c).toNat i).mpr ⟨s, s0, by omega, s2⟩
          rw [zu_ne (by omega), hla (w * 6 + i), show w * 6 + i - w * 6 = i by omega, hq, if_pos ⟨⟨i0, i1⟩, hz9⟩]
      · exact absurd h17 (by omega)
    | succ m ih =>
      intro t mo J x5 x6 h0 h1 hm hf hld hla hmo
      have e38 : J 38 = I 38 := hf 38 (by decide) (by omega)
      have e63 : J 63 = I 63 := hf 63 (by decide) (by omega)
      have e40 : J (40 + c.toNat) = I (40 + c.toNat) := hf _ (by omega) (by omega)
      have hb2 := hbd t.toNat (by omega)
      rw [← hmo] at hb2
      have hsu := zlq_succ (I (40 + c.toNat)) (I 63) w.toNat h0
      generalize hzz : zlq (I (40 + c.toNat)) (I 63) w.toNat t.toNat = z at hld hla hmo hb2 hsu
      have hot : t < I 38 c → 0 ≤ I 63 t ∧ I 63 t < I 38 c := hs.1 t h0
      have hli : t < I 38 c → 1 ≤ I (40 + c.toNat) (I 63 t) ∧ I (40 + c.toNat) (I 63 t) ≤ 9 := fun g => hlen _ (hot g).1 (hot g).2
      have hzm := zamin_b z.1 w.toNat hw0
      have hzm2 := hb2.1 (zamin z.1 w.toNat)
      have hzc : zamin (J 62) w.toNat = zamin z.1 w.toNat := zamin_congr (fun x x0 x1 => hld x x0 (by omega))
      refine wp_canon (fun hI0 => ?_)
      refine wp_iload (t := 6) rfl rfl ?_
      refine wp_aload_n (t := 7) rfl rfl ?_
      refine wp_getR (t := 8) (ji := 7) rfl fX2_21 rfl rfl (by omega) (by first | rfl | assumption) (by first | exact hW _ _ _ (by omega) rfl | assumption) ?_
      refine wp_iload_n (t := 9) rfl rfl ?_
      refine wp_iaload (t := 10) rfl (by omega) (by first | rfl | assumption) (by omega) (by omega) (by omega) ?_
      rw [e38]
      refine wp_icmp_ge (t := 11) (tgt := 89) rfl (by decide) (by first | assumption | exact hI0 _ _ | exact zin_and _ _ | (unfold zin; omega) | (unfold zin at *; omega)) (by first | assumption | exact hI0 _ _ | exact zin_and _ _ | (unfold zin; omega) | (unfold zin at *; omega)) (fun h17 => ?_) (fun h17 => ?_)
      · exact absurd h17 (by omega)
      · have hot := hot (by omega)
        have hli := hli (by omega)
        refine wp_aload_n (t := 12) rfl rfl ?_
        refine wp_getR (t := 13) (ji := 14) rfl fX2_44 rfl rfl (by omega) (by first | rfl | assumption) (by first | exact hW _ _ _ (by omega) rfl | assumption) ?_
        refine wp_iload (t := 14) rfl rfl ?_
        refine wp_iaload (t := 15) rfl (by omega) (by first | rfl | assumption) (by omega) (by omega) (by omega) ?_
        rw [e63]
        refine wp_istore (t := 16) rfl (by decide) rfl ?_
        refine wp_aload_n (t := 17) rfl rfl ?_
        refine wp_iload_n (t := 18) rfl rfl ?_
        refine wp_vi (ci := 2) (c_X2_leastLoaded (d := d) hW hn hw) (t := 19) rfl kX2_71 rfl rfl (by omega) (by first | rfl | assumption) ⟨_, _, rfl⟩ (Nat.le_of_ble_eq_true rfl) ⟨Nat.le_refl _, Nat.le_refl _⟩ (fun r31 I31 R31 c31 => ?_)
        refine wp_canon (fun hI1 => ?_)
        obtain ⟨rfl, rfl, rfl⟩ := c31
        rw [hzc]
        refine wp_istore (t := 20) rfl (by decide) rfl ?_
        refine wp_aload_n (t := 21) rfl rfl ?_
        refine wp_getR (t := 22) (ji := 13) rfl fX2_41 rfl rfl (by omega) (by first | rfl | assumption) (by first | exact hW _ _ _ (by omega) rfl | assumption) ?_
        refine wp_iload (t := 23) rfl rfl ?_
        refine wp_dup2 (t := 24) rfl rfl rfl ?_
        refine wp_iaload (t := 25) rfl (by omega) (by first | rfl | assumption) (by omega) (by omega) (by omega) ?_
        refine wp_aload_n (t := 26) rfl rfl ?_
        refine wp_getR (t := 27) (ji := 8) rfl fX2_26 rfl rfl (by omega) (by first | rfl | assumption) (by first | exact hW _ _ _ (by omega) rfl | assumption) ?_
        refine wp_iload_n (t := 28) rfl rfl ?_
        refine wp_aaload (t := 29) rfl (by omega) (by first | rfl | assumption) (by omega) (by omega) (by omega) (by first | exact hW _ _ _ (by omega) rfl | assumption) ?_
        refine wp_iload (t := 30) rfl rfl ?_
        refine wp_iaload (t := 31) rfl (by omega) (by first | rfl | assumption) (by omega) (by omega) (by omega) ?_
        rw [hld _ hzm.1 (by omega), e40]
        refine wp_iadd (t := 32) rfl ?_
        refine wp_iastore (t := 33) rfl (by omega) (by first | rfl | assumption) (by omega) (by omega) (by omega) (by first | assumption | exact hI1 _ _ | exact hI0 _ _ | exact zin_and _ _ | (unfold zin; omega) | (unfold zin at *; omega)) ?_
        refine wp_canon (fun hI2 => ?_)
        refine wp_aload_n (t := 34) rfl rfl ?_
        refine wp_getR (t := 35) (ji := 12) rfl fX2_38 rfl rfl (by omega) (by first | rfl | assumption) (by first | exact hW _ _ _ (by omega) rfl | assumption) ?_
        refine wp_iload_n (t := 36) rfl rfl ?_
        refine wp_aaload (t := 37) rfl (by omega) (by first | rfl | assumption) (by omega) (by omega) (by omega) (by first | exact hW _ _ _ (by omega) rfl | assumption) ?_
        refine wp_iload_n (t := 38) rfl rfl ?_
        refine wp_bipush (t := 39) rfl (by decide) ?_
        refine wp_imul (t := 40) rfl ?_
        refine wp_iload (t := 41) rfl rfl ?_
        refine wp_iadd (t := 42) rfl ?_
        refine wp_iload (t := 43) rfl rfl ?_
        refine wp_iastore (t := 44) rfl (by omega) (by first | rfl | assumption) (by omega) (by omega) (by omega) (by first | assumption | exact hI2 _ _ | exact hI1 _ _ | exact hI0 _ _ | exact zin_and _ _ | (unfold zin; omega) | (unfold zin at *; omega)) ?_
        refine wp_canon (fun hI3 => ?_)
        refine wp_iload_n (t := 45) rfl rfl ?_
        refine wp_aload_n (t := 46) rfl rfl ?_
        refine wp_getR (t := 47) (ji := 13) rfl fX2_41 rfl rfl (by omega) (by first | rfl | assumption) (by first | exact hW _ _ _ (by omega) rfl | assumption) ?_
        refine wp_iload (t := 48) rfl rfl ?_
        refine wp_iaload (t := 49) rfl (by omega) (by first | rfl | assumption) (by omega) (by omega) (by omega) ?_
        rw [show ∀ v, zu (zu I31 62 (zamin z.1 w.toNat) v) (56 + c.toNat) (w * 6 + I 63 t) (zamin z.1 w.toNat) 62 (zamin z.1 w.toNat) = v from fun v => by rw [zu_ne (by omega)]; exact zu_eq]
        refine wp_max (t := 50) rfl (wsL_law_r12_l (List.mem_of_getElem? (i := 7) rfl)) (by first | assumption | exact hI3 _ _ | exact hI2 _ _ | exact hI1 _ _ | exact hI0 _ _ | exact zin_and _ _ | (unfold zin; omega) | (unfold zin at *; omega)) (by first | assumption | exact hI3 _ _ | exact hI2 _ _ | exact hI1 _ _ | exact hI0 _ _ | exact zin_and _ _ | (unfold zin; omega) | (unfold zin at *; omega)) (Nat.le_of_ble_eq_true rfl) ⟨Nat.le_refl _, Nat.le_refl _⟩ ?_
        refine wp_istore_n (t := 51) rfl (by decide) rfl ?_
        refine wp_iinc (t := 52) rfl rfl (by decide) rfl ?_
        refine wp_goto (t := 53) (tgt := 9) rfl (by decide) ?_
        refine ih (t + 1) _ _ _ _ (by omega) (by omega) (by omega) (fun b g1 g2 => by rw [zu_ne g2, zu_ne g1]; exact hf b g1 g2) (fun x x0 x1 => ?_) (fun j => ?_) ?_
        · rw [zu_ne (by omega), hsu]
          show _ = if x = zamin z.1 w.toNat then z.1 (zamin z.1 w.toNat) + I (40 + c.toNat) (I 63 t) else z.1 x
          by_cases e : x = zamin z.1 w.toNat
          · rw [if_pos e, e]; exact zu_eq
          · rw [if_neg e, zu_ni e]; exact hld x x0 x1
        · rw [hsu]
          show _ = if (0 ≤ j - w * 6 ∧ j - w * 6 < I 38 c) ∧ 0 ≤ (if j - w * 6 = I 63 t then zamin z.1 w.toNat else z.2.1 (j - w * 6)) then (if j - w * 6 = I 63 t then zamin z.1 w.toNat else z.2.1 (j - w * 6)) else I (56 + c.toNat) j
          by_cases e : j - w * 6 = I 63 t
          · rw [if_pos e, if_pos ⟨⟨by omega, by omega⟩, hzm.1⟩, show j = w * 6 + I 63 t by omega]; exact zu_eq
          · rw [if_neg e, zu_ni (by omega), zu_ne (by omega)]; exact hla j
        · rw [hsu, hmo]; rfl
  refine wp_ls (ls' := [some (zR 34), some (zI c), some (zI w), none, none, none, none]) rfl ?_
  refine wp_aload_n (t := 0) rfl rfl ?_
  refine wp_vv (ci := 2) (c_X2_clearLoads (d := d) hW hn) (t := 1) rfl kX2_68 rfl rfl (by omega) (by first | rfl | assumption) ⟨_, _, rfl⟩ (Nat.le_of_ble_eq_true rfl) ⟨Nat.le_refl _, Nat.le_refl _⟩ (fun I1 R1 c1 => ?_)
  refine wp_canon (fun hI1 => ?_)
  obtain ⟨⟨c1a, c1b⟩, rfl⟩ := c1
  refine wp_iconst (t := 2) rfl ?_
  refine wp_istore_n (t := 3) rfl (by decide) rfl ?_
  refine wp_iconst (t := 4) rfl ?_
  refine wp_istore (t := 5) rfl (by decide) rfl ?_
  refine key _ 0 0 I1 _ _ (by omega) (by omega) rfl (fun b g1 _ => c1a b g1) (fun x x0 x1 => c1b x x0 (by omega)) (fun j => ?_) rfl
  rw [c1a _ (by omega), if_neg (fun g => by have : (0 : Int) ≤ -4 := g.2; omega)]
/-- the chip's chains are laid as filling the lines tells -/
def zLaid (I : zMem) : Prop := ∀ c w : Int, 0 ≤ c → c < I 34 2 → 1 ≤ w → w ≤ I 34 0 → I (49 + c.toNat) w = (zlp (I (40 + c.toNat)) (I 38 c).toNat w.toNat (I 38 c).toNat).2.2 ∧ ∀ i : Int, 0 ≤ i → i < I 38 c → I (56 + c.toNat) (w * 6 + i) = (zlp (I (40 + c.toNat)) (I 38 c).toNat w.toNat (I 38 c).toNat).2.1 i
set_option maxHeartbeats 4000000 in
set_option maxRecDepth 100000 in
theorem c_X2_layChains {G : zG} {d n : Nat} {I : zMem} {R : zRef} (hW : zWir n R) (hn : 115 ≤ n) (hco : 0 ≤ I 34 2 ∧ I 34 2 ≤ 6) (hli : 1 ≤ I 34 0 ∧ I 34 0 ≤ 8) (hle : ∀ c : Int, 0 ≤ c → c < I 34 2 → zLe I c) : MT G mX2_layChains (d + 2) 0 0 [zR 34] n I R (zP0 (fun I' R' => ((∀ b : Nat, (b < 49 ∨ 63 < b) → I' b = I b) ∧ zLaid I') ∧ R' = R)) := by
  refine MT.of (by decide +kernel) tX2_layChains_ok (Nat.le_of_ble_eq_true rfl) (fun hI0 => ?_)
  have key : ∀ (m : Nat) (c : Int) (J : zMem) (x2 : Option zV), 0 ≤ c → c ≤ I 34 2 → (I 34 2 - c).toNat = m → (∀ b : Nat, (b < 49 ∨ 63 < b) → J b = I b) → (∀ a w : Int, 0 ≤ a → a < c → 1 ≤ w → w ≤ I 34 0 → J (49 + a.toNat) w = (zlp (I (40 + a.toNat)) (I 38 a).toNat w.toNat (I 38 a).toNat).2.2 ∧ ∀ i : Int, 0 ≤ i → i < I 38 a → J (56 + a.toNat) (w * 6 + i) = (zlp (I (40 + a.toNat)) (I 38 a).toNat w.toNat (I 38 a).toNat).2.1 i) → WP G mX2_layChains (d + 2) 0 0 0 0 2 [some (zR 34), some (zI c), x2] [] n J R (zP0 (fun I' R' => ((∀ b : Nat, (b < 49 ∨ 63 < b) → I' b = I b) ∧ zLaid I') ∧ R' = R)) := by
    intro m
    induction m with
    | zero =>
      intro c J x2 h0 h1 hm hf hd
      have e34 : J 34 = I 34 := hf 34 (by omega)
      refine wp_canon (fun hI0 => ?_)
      refine wp_iload_n (t := 2) rfl rfl ?_
      refine wp_aload_n (t := 3) rfl rfl ?_
      refine wp_getI (t := 4) (ji := 2) rfl fX2_54 rfl rfl (by omega) (by first | rfl | assumption) ?_
      rw [e34]
      refine wp_icmp_ge (t := 5) (tgt := 43) rfl (by decide) (by first | assumption | exact hI0 _ _ | exact zin_and _ _ | (unfold zin; omega) | (unfold zin at *; omega)) (by first | assumption | exact hI0 _ _ | exact zin_and _ _ | (unfold zin; omega) | (unfold zin at *; omega)) (fun h7 => ?_) (fun h7 => ?_)
      · refine wp_return (t := 23) rfl rfl ?_
        refine ⟨rfl, ⟨hf, fun a w a0 a1 w0 w1 => ?_⟩, rfl⟩
        rw [e34] at a1 w1
        rw [hf (40 + a.toNat) (by omega), hf 38 (by omega)]
        exact hd a w a0 (by omega) w0 w1
      · exact absurd h7 (by omega)
    | succ m ih =>
      intro c J x2 h0 h1 hm hf hd
      have e34 : J 34 = I 34 := hf 34 (by omega)
      refine wp_canon (fun hI0 => ?_)
      have inner : ∀ (k : Nat) (w : Int) (K : zMem), 1 ≤ w → w ≤ I 34 0 + 1 → (I 34 0 + 1 - w).toNat = k → c < I 34 2 → (∀ b : Nat, (b < 49 ∨ 63 < b) → K b = I b) → zSrt (I (40 + c.toNat)) (K 63) (I 38 c) → (∀ a w : Int, 0 ≤ a → a < c → 1 ≤ w → w ≤ I 34 0 → K (49 + a.toNat) w = (zlp (I (40 + a.toNat)) (I 38 a).toNat w.toNat (I 38 a).toNat).2.2 ∧ ∀ i : Int, 0 ≤ i → i < I 38 a → K (56 + a.toNat) (w * 6 + i) = (zlp (I (40 + a.toNat)) (I 38 a).toNat w.toNat (I 38 a).toNat).2.1 i) → (∀ v : Int, 1 ≤ v → v < w → K (49 + c.toNat) v = (zlp (I (40 + c.toNat)) (I 38 c).toNat v.toNat (I 38 c).toNat).2.2 ∧ ∀ i : Int, 0 ≤ i → i < I 38 c → K (56 + c.toNat) (v * 6 + i) = (zlp (I (40 + c.toNat)) (I 38 c).toNat v.toNat (I 38 c).toNat).2.1 i) → WP G mX2_layChains (d + 2) 0 0 0 0 17 [some (zR 34), some (zI c), some (zI w)] [] n K R (zP0 (fun I' R' => ((∀ b : Nat, (b < 49 ∨ 63 < b) → I' b = I b) ∧ zLaid I') ∧ R' = R)) := by
        intro k
        induction k with
        | zero =>
          intro w K w0 w1 hk hc9 kf ks kd kw
          have e34 : K 34 = I 34 := kf 34 (by omega)
          refine wp_canon (fun hI0 => ?_)
          refine wp_iload_n (t := 11) rfl rfl ?_
          refine wp_aload_n (t := 12) rfl rfl ?_
          refine wp_getI (t := 13) (ji := 0) rfl fX2_47 rfl rfl (by omega) (by first | rfl | assumption) ?_
          rw [e34]
          refine wp_icmp_gt (t := 14) (tgt := 37) rfl (by decide) (by first | assumption | exact hI0 _ _ | exact zin_and _ _ | (unfold zin; omega) | (unfold zin at *; omega)) (by first | assumption | exact hI0 _ _ | exact zin_and _ _ | (unfold zin; omega) | (unfold zin at *; omega)) (fun h22 => ?_) (fun h22 => ?_)
          · refine wp_iinc (t := 21) rfl rfl (by decide) rfl ?_
            refine wp_goto (t := 22) (tgt := 2) rfl (by decide) ?_
            refine ih (c + 1) K _ (by omega) (by omega) (by omega) kf (fun a v a0 a1 v0 v1 => ?_)
            by_cases e : a = c
            · rw [e]; exact kw v v0 (by omega)
            · exact kd a v a0 (by omega) v0 v1
          · exact absurd h22 (by omega)
        | succ k ihk =>
          intro w K w0 w1 hk hc9 kf ks kd kw
          have e34 : K 34 = I 34 := kf 34 (by omega)
          have e38 : K 38 = I 38 := kf 38 (by omega)
          have e40 : ∀ a : Int, 0 ≤ a → a < 6 → K (40 + a.toNat) = I (40 + a.toNat) := fun a a0 a1 => kf _ (by omega)
          have hle9 : zLe K c := by
            have := hle c h0 hc9
            unfold zLe at this ⊢
            rw [e38, e40 c h0 (by omega)]
            exact this
          refine wp_canon (fun hI0 => ?_)
          refine wp_iload_n (t := 11) rfl rfl ?_
          refine wp_aload_n (t := 12) rfl rfl ?_
          refine wp_getI (t := 13) (ji := 0) rfl fX2_47 rfl rfl (by omega) (by first | rfl | assumption) ?_
          rw [e34]
          refine wp_icmp_gt (t := 14) (tgt := 37) rfl (by decide) (by first | assumption | exact hI0 _ _ | exact zin_and _ _ | (unfold zin; omega) | (unfold zin at *; omega)) (by first | assumption | exact hI0 _ _ | exact zin_and _ _ | (unfold zin; omega) | (unfold zin at *; omega)) (fun h22 => ?_) (fun h22 => ?_)
          · exact absurd h22 (by omega)
          · refine wp_aload_n (t := 15) rfl rfl ?_
            refine wp_iload_n (t := 16) rfl rfl ?_
            refine wp_iload_n (t := 17) rfl rfl ?_
            refine wp_vv (ci := 2) (c_X2_layAt (d := d) hW hn ⟨h0, by omega⟩ ⟨w0, by omega⟩ hle9 (by rw [e38, e40 c h0 (by omega)]; exact ks)) (t := 18) rfl kX2_64 rfl rfl (by omega) (by first | rfl | assumption) ⟨_, _, rfl⟩ (Nat.le_of_ble_eq_true rfl) ⟨Nat.le_refl _, Nat.le_refl _⟩ (fun I28 R28 c28 => ?_)
            refine wp_canon (fun hI1 => ?_)
            obtain ⟨⟨p1, p2, p3, p4, p5⟩, rfl⟩ := c28
            rw [e38, e40 c h0 (by omega)] at p3 p5
            rw [e38] at p4
            refine wp_iinc (t := 19) rfl rfl (by decide) rfl ?_
            refine wp_goto (t := 20) (tgt := 17) rfl (by decide) ?_
            refine ihk (w + 1) I28 (by omega) (by omega) (by omega) hc9 (fun b hb => by rw [p1 b (by omega) (by omega) (by omega)]; exact kf b hb) (by rw [p1 63 (by omega) (by omega) (by omega)]; exact ks) (fun a v a0 a1 v0 v1 => ?_) (fun v v0 v1 => ?_)
            · rw [p1 (49 + a.toNat) (by omega) (by omega) (by omega), p1 (56 + a.toNat) (by omega) (by omega) (by omega)]
              exact kd a v a0 a1 v0 v1
            · by_cases e : v = w
              · rw [e]; exact ⟨p3, p5⟩
              · have g := kw v v0 (by omega)
                refine ⟨by rw [p2 v e]; exact g.1, fun i i0 i1 => ?_⟩
                have hcc := (hle c h0 hc9).1
                rw [p4 _ (by omega)]
                exact g.2 i i0 i1
      have hle9 : c < I 34 2 → zLe J c := fun hc9 => by
        have := hle c h0 hc9
        unfold zLe at this ⊢
        rw [hf 38 (by omega), hf (40 + c.toNat) (by omega)]
        exact this
      refine wp_iload_n (t := 2) rfl rfl ?_
      refine wp_aload_n (t := 3) rfl rfl ?_
      refine wp_getI (t := 4) (ji := 2) rfl fX2_54 rfl rfl (by omega) (by first | rfl | assumption) ?_
      rw [e34]
      refine wp_icmp_ge (t := 5) (tgt := 43) rfl (by decide) (by first | assumption | exact hI0 _ _ | exact zin_and _ _ | (unfold zin; omega) | (unfold zin at *; omega)) (by first | assumption | exact hI0 _ _ | exact zin_and _ _ | (unfold zin; omega) | (unfold zin at *; omega)) (fun h7 => ?_) (fun h7 => ?_)
      · exact absurd h7 (by omega)
      · refine wp_aload_n (t := 6) rfl rfl ?_
        refine wp_iload_n (t := 7) rfl rfl ?_
        refine wp_vv (ci := 2) (c_X2_orderChains (d := d + 1) hW hn ⟨h0, by omega⟩ (hle9 (by omega))) (t := 8) rfl kX2_60 rfl rfl (by omega) (by first | rfl | assumption) ⟨_, _, rfl⟩ (Nat.le_of_ble_eq_true rfl) ⟨Nat.le_refl _, Nat.le_refl _⟩ (fun I12 R12 c12 => ?_)
        refine wp_canon (fun hI1 => ?_)
        obtain ⟨⟨p1, p2⟩, rfl⟩ := c12
        rw [hf 38 (by omega), hf (40 + c.toNat) (by omega)] at p2
        refine wp_iconst (t := 9) rfl ?_
        refine wp_istore_n (t := 10) rfl (by decide) rfl ?_
        refine inner _ 1 I12 (by omega) (by omega) rfl (by omega) (fun b hb => by rw [p1 b (by omega)]; exact hf b hb) p2 (fun a v a0 a1 v0 v1 => ?_) (fun v v0 v1 => absurd v1 (by omega))
        rw [p1 (49 + a.toNat) (by omega), p1 (56 + a.toNat) (by omega)]
        exact hd a v a0 a1 v0 v1
  refine wp_ls (ls' := [some (zR 34), none, none]) rfl ?_
  refine wp_iconst (t := 0) rfl ?_
  refine wp_istore_n (t := 1) rfl (by decide) rfl ?_
  exact key _ 0 I _ (by omega) (by omega) rfl (fun _ _ => rfl) (fun a w a0 a1 => absurd a1 (by omega))
