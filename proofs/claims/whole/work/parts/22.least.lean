/-! leastLength: what was found is held -/
set_option maxHeartbeats 4000000 in
set_option maxRecDepth 100000 in
theorem c_X5_forgetAll {G : zG} {d n : Nat} {I : zMem} {R : zRef} (hW : zWir n R) (hn : 115 ≤ n) : MT G mX5_forgetAll d 0 0 [zR 72] n I R (zP0 (fun I' R' => ((∀ b : Nat, b ≠ 85 → I' b = I b) ∧ ∀ l : Int, 0 ≤ l → l < 9 → I' 85 l = 0) ∧ R' = R)) := by
  refine MT.of (by decide +kernel) tX5_forgetAll_ok (Nat.le_of_ble_eq_true rfl) (fun hI0 => ?_)
  have key : ∀ (m : Nat) (l : Int) (J : zMem), 0 ≤ l → l ≤ 9 → (9 - l).toNat = m → (∀ b : Nat, b ≠ 85 → J b = I b) → (∀ x : Int, 0 ≤ x → x < l → J 85 x = 0) → WP G mX5_forgetAll d 0 0 0 0 2 [some (zR 72), some (zI l)] [] n J R (zP0 (fun I' R' => ((∀ b : Nat, b ≠ 85 → I' b = I b) ∧ ∀ l : Int, 0 ≤ l → l < 9 → I' 85 l = 0) ∧ R' = R)) := by
    intro m
    induction m with
    | zero =>
      intro l J h0 h1 hm hf hz
      refine wp_canon (fun hI0 => ?_)
      refine wp_iload_n (t := 2) rfl rfl ?_
      refine wp_aload_n (t := 3) rfl rfl ?_
      refine wp_getR (t := 4) (ji := 6) rfl fX5_23 rfl rfl (by omega) (by first | rfl | assumption) (by first | exact hW _ _ _ (by omega) rfl | assumption) ?_
      refine wp_alen (t := 5) rfl (by omega) (Or.inl rfl) rfl rfl ?_
      refine wp_icmp_ge (t := 6) (tgt := 24) rfl (by decide) (by first | assumption | exact hI0 _ _ | exact zin_and _ _ | (unfold zin; omega) | (unfold zin at *; omega)) (by first | assumption | exact hI0 _ _ | exact zin_and _ _ | (unfold zin; omega) | (unfold zin at *; omega)) (fun h8 => ?_) (fun h8 => ?_)
      · refine wp_return (t := 14) rfl rfl ?_
        exact ⟨rfl, ⟨hf, fun x x0 x1 => hz x x0 (by omega)⟩, rfl⟩
      · exact absurd h8 (by omega)
    | succ m ih =>
      intro l J h0 h1 hm hf hz
      refine wp_canon (fun hI0 => ?_)
      refine wp_iload_n (t := 2) rfl rfl ?_
      refine wp_aload_n (t := 3) rfl rfl ?_
      refine wp_getR (t := 4) (ji := 6) rfl fX5_23 rfl rfl (by omega) (by first | rfl | assumption) (by first | exact hW _ _ _ (by omega) rfl | assumption) ?_
      refine wp_alen (t := 5) rfl (by omega) (Or.inl rfl) rfl rfl ?_
      refine wp_icmp_ge (t := 6) (tgt := 24) rfl (by decide) (by first | assumption | exact hI0 _ _ | exact zin_and _ _ | (unfold zin; omega) | (unfold zin at *; omega)) (by first | assumption | exact hI0 _ _ | exact zin_and _ _ | (unfold zin; omega) | (unfold zin at *; omega)) (fun h8 => ?_) (fun h8 => ?_)
      · exact absurd h8 (by omega)
      · refine wp_aload_n (t := 7) rfl rfl ?_
        refine wp_getR (t := 8) (ji := 6) rfl fX5_23 rfl rfl (by omega) (by first | rfl | assumption) (by first | exact hW _ _ _ (by omega) rfl | assumption) ?_
        refine wp_iload_n (t := 9) rfl rfl ?_
        refine wp_iconst (t := 10) rfl ?_
        refine wp_iastore (t := 11) rfl (by omega) (by first | rfl | assumption) (by omega) (by omega) (by omega) (by first | assumption | exact hI0 _ _ | exact zin_and _ _ | (unfold zin; omega) | (unfold zin at *; omega)) ?_
        refine wp_canon (fun hI1 => ?_)
        refine wp_iinc (t := 12) rfl rfl (by decide) rfl ?_
        refine wp_goto (t := 13) (tgt := 2) rfl (by decide) ?_
        refine ih (l + 1) _ (by omega) (by omega) (by omega) (fun b hb => by rw [zu_ne hb]; exact hf b hb) (fun x x0 x1 => ?_)
        by_cases e : x = l
        · rw [e]; exact zu_eq
        · rw [zu_ni e]; exact hz x x0 (by omega)
  refine wp_ls (ls' := [some (zR 72), none]) rfl ?_
  refine wp_iconst (t := 0) rfl ?_
  refine wp_istore_n (t := 1) rfl (by decide) rfl ?_
  exact key _ 0 I (by omega) (by omega) rfl (fun _ _ => rfl) (fun x x0 x1 => absurd x1 (by omega))
set_option maxHeartbeats 4000000 in
set_option maxRecDepth 100000 in
theorem c_X5_placedAt {G : zG} {d n : Nat} {I : zMem} {R : zRef} {k : Int} (hW : zWir n R) (hn : 115 ≤ n) (hk : 0 ≤ k ∧ k < 6) : MT G mX5_placedAt d 0 0 [zR 72, zI k] n I R (zP1 (fun r I' R' => r = I 75 k ∧ I' = I ∧ R' = R)) := by
  refine MT.of (by decide +kernel) tX5_placedAt_ok (Nat.le_of_ble_eq_true rfl) (fun hI0 => ?_)
  refine wp_ls (ls' := [some (zR 72), some (zI k)]) rfl ?_
  refine wp_iload_n (t := 0) rfl rfl ?_
  refine wp_if_lt (t := 1) (tgt := 21) rfl (by decide) (by first | assumption | exact hI0 _ _ | exact zin_and _ _ | (unfold zin; omega) | (unfold zin at *; omega)) (fun h1 => ?_) (fun h1 => ?_)
  · first | exact absurd h1 (by omega) | exact absurd h7 (by omega)
  · refine wp_iload_n (t := 2) rfl rfl ?_
    refine wp_bipush (t := 3) rfl (by decide) ?_
    refine wp_icmp_ge (t := 4) (tgt := 21) rfl (by decide) (by first | assumption | exact hI0 _ _ | exact zin_and _ _ | (unfold zin; omega) | (unfold zin at *; omega)) (by first | assumption | exact hI0 _ _ | exact zin_and _ _ | (unfold zin; omega) | (unfold zin at *; omega)) (fun h7 => ?_) (fun h7 => ?_)
    · first | exact absurd h1 (by omega) | exact absurd h7 (by omega)
    · refine wp_aload_n (t := 5) rfl rfl ?_
      refine wp_getR (t := 6) (ji := 4) rfl fX5_17 rfl rfl (by omega) (by first | rfl | assumption) (by first | exact hW _ _ _ (by omega) rfl | assumption) ?_
      refine wp_iconst (t := 7) rfl ?_
      refine wp_aaload (t := 8) rfl (by omega) (by first | rfl | assumption) (by omega) (by omega) (by omega) (by first | exact hW _ _ _ (by omega) rfl | assumption) ?_
      refine wp_iload_n (t := 9) rfl rfl ?_
      refine wp_iaload (t := 10) rfl (by omega) (by first | rfl | assumption) (by omega) (by omega) (by omega) ?_
      refine wp_goto (t := 11) (tgt := 23) rfl (by decide) ?_
      refine wp_ireturn (t := 13) rfl rfl ?_
      exact ⟨_, rfl, rfl, rfl, rfl⟩
/-- the kinds of the first n cores as one number -/
def zcode (ka : Int → Int) : Nat → Int
  | 0 => 1
  | n + 1 => zcode ka n * 4 + ka n
theorem zcode_succ (ka : Int → Int) {c : Int} (h : 0 ≤ c) : zcode ka (c + 1).toNat = zcode ka c.toNat * 4 + ka c := by
  rw [show (c + 1).toNat = c.toNat + 1 by omega]
  show zcode ka c.toNat * 4 + ka (c.toNat : Int) = _
  rw [Int.toNat_of_nonneg h]
theorem zcode_b {ka : Int → Int} : ∀ n : Nat, n ≤ 6 → (∀ c : Int, 0 ≤ c → c < n → 0 ≤ ka c ∧ ka c ≤ 3) → 1 ≤ zcode ka n ∧ zcode ka n ≤ 2 * 4 ^ n - 1 := by
  intro n
  induction n with
  | zero => intro _ _; exact ⟨Int.le_refl _, by show (1 : Int) ≤ _; omega⟩
  | succ n ih =>
    intro hn h
    have g := ih (by omega) (fun c c0 c1 => h c c0 (by omega))
    have g2 := h n (by omega) (by omega)
    show 1 ≤ zcode ka n * 4 + ka n ∧ zcode ka n * 4 + ka n ≤ 2 * 4 ^ (n + 1) - 1
    rw [Int.pow_succ]
    omega
theorem zcode_b6 {ka : Int → Int} {n : Nat} (hn : n ≤ 6) (h : ∀ c : Int, 0 ≤ c → c < n → 0 ≤ ka c ∧ ka c ≤ 3) : 1 ≤ zcode ka n ∧ zcode ka n ≤ 8191 := by
  have g := zcode_b n hn h
  have : (2 : Int) * 4 ^ n - 1 ≤ 8191 := by
    rcases (show n = 0 ∨ n = 1 ∨ n = 2 ∨ n = 3 ∨ n = 4 ∨ n = 5 ∨ n = 6 by omega) with rfl | rfl | rfl | rfl | rfl | rfl | rfl <;> decide
  omega
theorem zcode_inj {ka kb : Int → Int} : ∀ n : Nat, (∀ c : Int, 0 ≤ c → c < n → 0 ≤ ka c ∧ ka c ≤ 3) → (∀ c : Int, 0 ≤ c → c < n → 0 ≤ kb c ∧ kb c ≤ 3) → zcode ka n = zcode kb n → ∀ c : Int, 0 ≤ c → c < n → ka c = kb c := by
  intro n
  induction n with
  | zero => intro _ _ _ c c0 c1; omega
  | succ n ih =>
    intro ha hb e c c0 c1
    have e : zcode ka n * 4 + ka n = zcode kb n * 4 + kb n := e
    have g1 := ha n (by omega) (by omega)
    have g2 := hb n (by omega) (by omega)
    by_cases hc : c = (n : Int)
    · subst hc
      omega
    · exact ih (fun c c0 c1 => ha c c0 (by omega)) (fun c c0 c1 => hb c c0 (by omega)) (by omega) c c0 (by omega)
theorem zcode_congr {ka kb : Int → Int} : ∀ {n : Nat}, (∀ c : Int, 0 ≤ c → c < n → ka c = kb c) → zcode ka n = zcode kb n := by
  intro n
  induction n with
  | zero => intro _; rfl
  | succ n ih =>
    intro h
    show zcode ka n * 4 + ka n = zcode kb n * 4 + kb n
    rw [ih (fun c c0 c1 => h c c0 (by omega)), h n (by omega) (by omega)]
abbrev zBst : Type := (Int → Int) → Int → Int → (Int → Int) → Prop
/-- what is held: for no kinds, or the best for some -/
def zCache (B : zBst) (I : zMem) : Prop := ∀ s : Int, 0 ≤ s → s < 9 → I 85 s = 0 ∨ ∃ ka : Int → Int, (∀ c : Int, 0 ≤ c → c < I 34 2 → 0 ≤ ka c ∧ ka c ≤ 3) ∧ I 85 s = zcode ka (I 34 2).toNat ∧ B ka (s - 1) (I 84 s) (I (75 + s.toNat)) ∧ (-4 ≤ I 84 s ∧ I 84 s ≤ 1000000)
/-- what the plain search gives is what B says, from any start of this chip -/
def zBok (B : zBst) (I : zMem) : Prop := (∀ (ka kb : Int → Int) (lo r : Int) (o o' : Int → Int), (∀ c : Int, 0 ≤ c → c < I 34 2 → ka c = kb c) → (∀ c : Int, 0 ≤ c → c < I 34 2 → o c = o' c) → B ka lo r o → B kb lo r o') ∧
  ∀ (ka : Int → Int) (lo : Int) (J : zMem) (o bo : Int → Int), (∀ b : Nat, 34 ≤ b → b ≤ 63 → J b = I b) → zCh J → zPl J 86 → (∀ c : Int, 0 ≤ c → c < I 34 2 → J 87 c = ka c ∧ 0 ≤ ka c ∧ ka c ≤ 3) → -1 ≤ lo → (∀ c : Int, 0 ≤ c → c < I 34 2 → I 37 c ≤ I 34 1) →
    (∀ c : Int, 0 ≤ c → c < 6 → J 88 c = 0 ∧ J 89 c = 0 ∧ J 90 c = 0 ∧ ∀ a : Int, 0 ≤ a → a < 6 → (zbt (J 91 c) a = true ↔ ∃ b : Int, 0 ≤ b ∧ b < I 34 3 ∧ b ≠ lo ∧ I 46 b = a ∧ I 47 b = c)) → B ka lo (tTry (sGreat (cS J 86)) (I 34 2).toNat (cS J 86) o 0 0 (1000000, bo)).1 (tTry (sGreat (cS J 86)) (I 34 2).toNat (cS J 86) o 0 0 (1000000, bo)).2
set_option maxHeartbeats 4000000 in
set_option maxRecDepth 100000 in
theorem c_X5_leastLength {G : zG} {d n : Nat} {I : zMem} {R : zRef} {B : zBst} {lo : Int} (hW : zWir n R) (hn : 115 ≤ n) (hch : zCh I) (hka : ∀ c : Int, 0 ≤ c → c < I 34 2 → 0 ≤ I 65 c ∧ I 65 c ≤ 3) (hB : zBok B I) (hca : zCache B I) (hlo : lo = -4 ∨ (0 ≤ lo ∧ lo < 8)) : MT G mX5_leastLength (d + 12) 0 0 [zR 72, zR 64, zI lo] n I R (zP1 (fun r I' R' => ((∀ b : Nat, (b < 72 ∨ 93 < b) → I' b = I b) ∧ zCache B I' ∧ ((r = -4 ∧ ∃ c : Int, 0 ≤ c ∧ c < I 34 2 ∧ I 34 1 < I 37 c) ∨ ((∀ c : Int, 0 ≤ c → c < I 34 2 → I 37 c ≤ I 34 1) ∧ (-4 ≤ r ∧ r ≤ 1000000) ∧ B (I 65) (if lo < 0 then -1 else lo) r (I' (75 + (if lo < 0 then 0 else lo + 1).toNat))))) ∧ R' = R)) := by
  refine MT.of (by decide +kernel) tX5_leastLength_ok (Nat.le_of_ble_eq_true rfl) (fun hI0 => ?_)
  have hco := hch.1
  obtain ⟨hB1, hB2⟩ := hB
  have cache_ext : ∀ J : zMem, J 34 = I 34 → J 85 = I 85 → J 84 = I 84 → (∀ s : Nat, s < 9 → J (75 + s) = I (75 + s)) → zCache B J := fun J h1 h2 h3 h4 s s0 s1 => by
    rw [h2, h3, h1, h4 s.toNat (by omega)]
    exact hca s s0 s1
  -- behind the slot: what is held, or the search
  have slot : ∀ (sl : Int) (J : zMem), sl = (if lo < 0 then 0 else lo + 1) → (∀ b : Nat, b ≠ 72 → b ≠ 87 → J b = I b) → J 72 7 = sl → (∀ c : Int, 0 ≤ c → c < I 34 2 → J 87 c = I 65 c) → (∀ c : Int, 0 ≤ c → c < I 34 2 → I 37 c ≤ I 34 1) →
      WP G mX5_leastLength (d + 12) 0 0 0 0 96 [some (zR 72), some (zR 64), some (zI lo), some (zI (zcode (I 65) (I 34 2).toNat)), some (zI (I 34 2))] [] n J R (zP1 (fun r I' R' => ((∀ b : Nat, (b < 72 ∨ 93 < b) → I' b = I b) ∧ zCache B I' ∧ ((r = -4 ∧ ∃ c : Int, 0 ≤ c ∧ c < I 34 2 ∧ I 34 1 < I 37 c) ∨ ((∀ c : Int, 0 ≤ c → c < I 34 2 → I 37 c ≤ I 34 1) ∧ (-4 ≤ r ∧ r ≤ 1000000) ∧ B (I 65) (if lo < 0 then -1 else lo) r (I' (75 + (if lo < 0 then 0 else lo + 1).toNat))))) ∧ R' = R)) := by
    intro sl J hsl hf h7 h87 hdr
    rw [← hsl]
    have hsl9 : 0 ≤ sl ∧ sl < 9 := by
      rw [hsl]
      split <;> omega
    have hslo : sl - 1 = (if lo < 0 then -1 else lo) := by
      rw [hsl]
      split <;> omega
    rw [← hslo]
    have e84 : J 84 = I 84 := hf 84 (by decide) (by decide)
    have e85 : J 85 = I 85 := hf 85 (by decide) (by decide)
    have hcb := zcode_b6 (ka := I 65) (n := (I 34 2).toNat) (by omega) (fun c c0 c1 => hka c c0 (by omega))
    have hchJ : zCh J := zCh_ext (fun b b1 b2 => hf b (by omega) (by omega)) hch
    refine wp_canon (fun hI0 => ?_)
    refine wp_aload_n (t := 52) rfl rfl ?_
    refine wp_getR (t := 53) (ji := 6) rfl fX5_23 rfl rfl (by omega) (by first | rfl | assumption) (by first | exact hW _ _ _ (by omega) rfl | assumption) ?_
    refine wp_aload_n (t := 54) rfl rfl ?_
    refine wp_getI (t := 55) (ji := 7) rfl fX5_26 rfl rfl (by omega) (by first | rfl | assumption) ?_
    rw [h7]
    refine wp_iaload (t := 56) rfl (by omega) (by first | rfl | assumption) (by omega) (by omega) (by omega) ?_
    refine wp_iload_n (t := 57) rfl rfl ?_
    rw [e85]
    refine wp_icmp_eq (t := 58) (tgt := 168) rfl (by decide) (by rw [← e85]; exact hI0 _ _) (by unfold zin; omega) (fun h106 => ?_) (fun h106 => ?_)
    · refine wp_aload_n (t := 91) rfl rfl ?_
      refine wp_getR (t := 92) (ji := 5) rfl fX5_20 rfl rfl (by omega) (by first | rfl | assumption) (by first | exact hW _ _ _ (by omega) rfl | assumption) ?_
      refine wp_aload_n (t := 93) rfl rfl ?_
      refine wp_getI (t := 94) (ji := 7) rfl fX5_26 rfl rfl (by omega) (by first | rfl | assumption) ?_
      rw [h7]
      refine wp_iaload (t := 95) rfl (by omega) (by first | rfl | assumption) (by omega) (by omega) (by omega) ?_
      refine wp_ireturn (t := 96) rfl rfl ?_
      rcases hca sl hsl9.1 hsl9.2 with q | ⟨ka, q1, q2, q3, q4⟩
      · omega
      refine ⟨_, rfl, ⟨fun b hb => hf b (by omega) (by omega), cache_ext J (hf 34 (by decide) (by decide)) e85 e84 (fun s hs => hf _ (by omega) (by omega)), Or.inr ⟨hdr, by rw [e84]; exact q4, ?_⟩⟩, rfl⟩
      rw [e84, hf _ (by omega) (by omega)]
      exact hB1 ka (I 65) (sl - 1) _ _ _ (fun c c0 c1 => zcode_inj (I 34 2).toNat (fun c c0 c1 => q1 c c0 (by omega)) (fun c c0 c1 => hka c c0 (by omega)) (by omega) c c0 (by omega)) (fun _ _ _ => rfl) q3
    · refine wp_aload_n (t := 59) rfl rfl ?_
      refine wp_getR (t := 60) (ji := 1) rfl fX5_46 rfl rfl (by omega) (by first | rfl | assumption) (by first | exact hW _ _ _ (by omega) rfl | assumption) ?_
      refine wp_iload_n (t := 61) rfl rfl ?_
      refine wp_vv (ci := 3) (c_X3_startOver (d := d + 10) (Or.inr rfl) hW hn (by rw [hf 34 (by decide) (by decide)]; exact hch.2.2.2.1) (fun b b0 b1 => by rw [hf 34 (by decide) (by decide)] at b1; have g := hch.2.2.2.2.2 b b0 b1; rw [hf 46 (by decide) (by decide), hf 47 (by decide) (by decide)]; omega) (by unfold zin; omega)) (t := 62) rfl kX5_71 rfl rfl (by omega) (by first | rfl | assumption) ⟨_, _, rfl⟩ (Nat.le_of_ble_eq_true rfl) ⟨Nat.le_refl _, Nat.le_refl _⟩ (fun I114 R114 c114 => ?_)
      refine wp_canon (fun hI1 => ?_)
      obtain ⟨⟨s1, s2⟩, rfl⟩ := c114
      have t1 : ∀ b : Nat, b ≠ 72 → b ≠ 87 → (b < 88 ∨ 91 < b) → I114 b = I b := fun b b1 b2 b3 => by rw [s1 b (by omega)]; exact hf b b1 b2
      have t87 : ∀ c : Int, 0 ≤ c → c < I 34 2 → I114 87 c = I 65 c := fun c c0 c1 => by rw [s1 87 (by decide)]; exact h87 c c0 c1
      have hchK : zCh I114 := zCh_ext (fun b b1 b2 => t1 b (by omega) (by omega) (by omega)) hch
      have hplK : zPl I114 86 := fun c c0 c1 => by
        rw [t1 34 (by decide) (by decide) (by decide)] at c1
        have g := s2 c c0 (by omega)
        have g2 := hka c c0 c1
        have g3 := t87 c c0 c1
        have hli := hch.2.1
        rw [t1 34 (by decide) (by decide) (by decide)]
        refine ⟨by show 0 ≤ I114 87 c ∧ I114 87 c ≤ 3; omega, by rw [g.1]; omega, by rw [g.2.1]; omega, by rw [g.2.2.1]; omega, g.2.2.2.1⟩
      have hbits : ∀ c : Int, 0 ≤ c → c < 6 → I114 88 c = 0 ∧ I114 89 c = 0 ∧ I114 90 c = 0 ∧ ∀ a : Int, 0 ≤ a → a < 6 → (zbt (I114 91 c) a = true ↔ ∃ b : Int, 0 ≤ b ∧ b < I 34 3 ∧ b ≠ sl - 1 ∧ I 46 b = a ∧ I 47 b = c) := fun c c0 c1 => by
        have g := s2 c c0 c1
        rw [hf 34 (by decide) (by decide), hf 46 (by decide) (by decide), hf 47 (by decide) (by decide)] at g
        refine ⟨g.1, g.2.1, g.2.2.1, fun a a0 a1 => (g.2.2.2.2 a a0 a1).trans ?_⟩
        constructor
        · rintro ⟨b, b0, b1, b2, b3⟩
          exact ⟨b, b0, b1, by rw [hslo]; split <;> omega, b3⟩
        · rintro ⟨b, b0, b1, b2, b3⟩
          exact ⟨b, b0, b1, by rw [hslo] at b2; split at b2 <;> omega, b3⟩
      refine wp_aload_n (t := 63) rfl rfl ?_
      refine wp_ldc (1000000) (t := 64) rfl (wsL_law_r5_l (List.mem_of_getElem? (i := 8) rfl)) (by decide) ?_
      refine wp_putI (t := 65) (ji := 8) rfl fX5_31 p5_8 rfl rfl (by omega) (by first | rfl | assumption) (by first | assumption | exact hI1 _ _ | exact hI0 _ _ | exact zin_and _ _ | (unfold zin; omega) | (unfold zin at *; omega)) ?_
      refine wp_canon (fun hI2 => ?_)
      refine wp_aload_n (t := 66) rfl rfl ?_
      refine wp_aload_n (t := 67) rfl rfl ?_
      refine wp_getR (t := 68) (ji := 2) rfl fX5_53 rfl rfl (by omega) (by first | rfl | assumption) (by first | exact hW _ _ _ (by omega) rfl | assumption) ?_
      refine wp_aload_n (t := 69) rfl rfl ?_
      refine wp_getR (t := 70) (ji := 1) rfl fX5_46 rfl rfl (by omega) (by first | rfl | assumption) (by first | exact hW _ _ _ (by omega) rfl | assumption) ?_
      refine wp_vi (ci := 0) (c_X0_greatest (d := d + 6) (Or.inr rfl) (Or.inr rfl) hW hn (zCh_ext (I := I114) (fun b b1 b2 => zu_ne (by omega)) hchK) (zPl_ext (I := I114) (zu_ne (by decide)) (zu_ne (by decide)) (zu_ne (by decide)) (zu_ne (by decide)) (zu_ne (by decide)) (zu_ne (by decide)) hplK)) (t := 71) rfl kX5_75 rfl rfl (by omega) (by first | rfl | assumption) ⟨_, _, rfl⟩ (Nat.le_of_ble_eq_true rfl) ⟨Nat.le_refl _, Nat.le_refl _⟩ (fun r132 I132 R132 c132 => ?_)
      refine wp_canon (fun hI3 => ?_)
      obtain ⟨e132, g132, rfl⟩ := c132
      have gs := sBounds_in (I := I114) (p := 86) hchK hplK
      rw [show cS (zu I114 72 8 1000000) 86 = cS I114 86 from cS_ext (zu_ne (by decide)) (zu_ne (by decide)) (zu_ne (by decide)) (fun b _ _ => zu_ne (by omega)) (zu_ne (by decide)) (zu_ne (by decide)) (zu_ne (by decide)) (zu_ne (by decide)) (zu_ne (by decide))] at e132
      have hgr : 0 ≤ r132 ∧ r132 ≤ 1000000 := by rw [e132]; unfold sGreat; omega
      refine wp_putI (t := 72) (ji := 9) rfl fX5_34 p5_9 rfl rfl (by omega) (by first | rfl | assumption) (by first | assumption | exact hI3 _ _ | exact hI2 _ _ | exact hI1 _ _ | exact hI0 _ _ | exact zin_and _ _ | (unfold zin; omega) | (unfold zin at *; omega)) ?_
      refine wp_canon (fun hI4 => ?_)
      refine wp_aload_n (t := 73) rfl rfl ?_
      refine wp_iconst (t := 74) rfl ?_
      refine wp_iconst (t := 75) rfl ?_
      refine wp_iconst (t := 76) rfl ?_
      have k1 : ∀ b : Nat, b ≠ 72 → b ≠ 93 → zu I132 72 9 r132 b = I114 b := fun b b1 b2 => by rw [zu_ne b1, g132 b b2, zu_ne b1]
      have k2 : cS (zu I132 72 9 r132) 86 = cS I114 86 := cS_ext (k1 _ (by decide) (by decide)) (k1 _ (by decide) (by decide)) (k1 _ (by decide) (by decide)) (fun b _ _ => k1 b (by omega) (by omega)) (k1 _ (by decide) (by decide)) (k1 _ (by decide) (by decide)) (k1 _ (by decide) (by decide)) (k1 _ (by decide) (by decide)) (k1 _ (by decide) (by decide))
      have k3 : zu I132 72 9 r132 72 8 = 1000000 := by rw [zu_ni (by decide), g132 72 (by decide)]; exact zu_eq
      have k34 : zu I132 72 9 r132 34 = I 34 := by rw [k1 34 (by decide) (by decide)]; exact t1 34 (by decide) (by decide) (by decide)
      have hchL : zCh (zu I132 72 9 r132) := zCh_ext (I := I114) (fun b b1 b2 => k1 b (by omega) (by omega)) hchK
      have hplL : zPl (zu I132 72 9 r132) 86 := zPl_ext (I := I114) (k1 _ (by decide) (by decide)) (k1 _ (by decide) (by decide)) (k1 _ (by decide) (by decide)) (k1 _ (by decide) (by decide)) (k1 _ (by decide) (by decide)) (k1 _ (by decide) (by decide)) hplK
      have htry := c_X5_tryAll (G := G) hW hn (I 34 2).toNat (d + (6 - (I 34 2).toNat)) (zu I132 72 9 r132) (zu I132 72 9 r132 73) (zu I132 72 9 r132 (75 + sl.toNat)) 0 0 0 r132 sl hchL hplL (by rw [k34]; omega) ⟨fun c a c0 c1 a0 a1 => by
          rw [k34] at c1 a0
          rw [k1 91 (by decide) (by decide)]
          by_cases q : zbt (I114 91 c) a = true
          · obtain ⟨b, b0, b1, b2, b3, b4⟩ := ((hbits c c0 (by omega)).2.2.2 a (by omega) a1).mp q
            have := hch.2.2.2.2.2 b b0 b1
            omega
          · simpa using q, fun c c0 c1 c2 => by
          rw [k34] at c1
          rw [k1 88 (by decide) (by decide), k1 89 (by decide) (by decide), k1 90 (by decide) (by decide)]
          have g := hbits c c0 (by omega)
          exact ⟨g.1, g.2.1, g.2.2.1⟩, ⟨by omega, fun c c0 c1 => by
          rw [k34] at c1
          rw [k1 88 (by decide) (by decide), (hbits c c0 (by omega)).1, zbt_zero c0 (by omega)]
          rfl⟩, fun j j0 j1 => absurd j1 (by omega), fun j j0 j1 => rfl, ⟨by rw [zu_ni (by decide), g132 72 (by decide), zu_ni (by decide), s1 72 (by decide)]; exact h7, hsl9.1, hsl9.2⟩, zu_eq, by rw [k3]; omega, by omega, by omega⟩
      rw [show d + (6 - (I 34 2).toNat) + (I 34 2).toNat + 5 = d + 11 by omega, k2, k3] at htry
      refine wp_sv (htry) (t := 77) rfl kX5_79 rfl rfl (Nat.le_of_ble_eq_true rfl) ⟨Nat.le_refl _, Nat.le_refl _⟩ (fun I142 R142 c142 => ?_)
      refine wp_canon (fun hI5 => ?_)
      obtain ⟨⟨y1, y2, y3, y4, y5⟩, rfl⟩ := c142
      rw [k34] at y2
      have hbest := hB2 (I 65) (sl - 1) I114 (zu I132 72 9 r132 73) (zu I132 72 9 r132 (75 + sl.toNat)) (fun b b1 b2 => t1 b (by omega) (by omega) (by omega)) hchK hplK (fun c c0 c1 => ⟨t87 c c0 c1, hka c c0 c1⟩) (by omega) hdr hbits
      rw [← e132] at hbest
      generalize tTry r132 (I 34 2).toNat (cS I114 86) (zu I132 72 9 r132 73) 0 0 (1000000, zu I132 72 9 r132 (75 + sl.toNat)) = res at y1 y2 hbest
      have y7 : I142 72 7 = sl := by rw [y3 7 (by decide), zu_ni (by decide), g132 72 (by decide), zu_ni (by decide), s1 72 (by decide)]; exact h7
      have yf : ∀ b : Nat, b ≠ 72 → b ≠ 73 → b ≠ 75 + sl.toNat → b ≠ 87 → (b < 88 ∨ 91 < b) → b ≠ 93 → I142 b = I b := fun b b1 b2 b3 b4 b5 b6 => by rw [y4 b b1 b2 b3, k1 b b1 b6]; exact t1 b b1 b4 b5
      refine wp_aload_n (t := 78) rfl rfl ?_
      refine wp_getR (t := 79) (ji := 5) rfl fX5_20 rfl rfl (by omega) (by first | rfl | assumption) (by first | exact hW _ _ _ (by omega) rfl | assumption) ?_
      refine wp_aload_n (t := 80) rfl rfl ?_
      refine wp_getI (t := 81) (ji := 7) rfl fX5_26 rfl rfl (by omega) (by first | rfl | assumption) ?_
      refine wp_aload_n (t := 82) rfl rfl ?_
      refine wp_getI (t := 83) (ji := 8) rfl fX5_31 rfl rfl (by omega) (by first | rfl | assumption) ?_
      rw [y7, y1.1]
      refine wp_iastore (t := 84) rfl (by omega) (by first | rfl | assumption) (by omega) (by omega) (by omega) (by unfold zin; omega) ?_
      refine wp_canon (fun hI6 => ?_)
      refine wp_aload_n (t := 85) rfl rfl ?_
      refine wp_getR (t := 86) (ji := 6) rfl fX5_23 rfl rfl (by omega) (by first | rfl | assumption) (by first | exact hW _ _ _ (by omega) rfl | assumption) ?_
      refine wp_aload_n (t := 87) rfl rfl ?_
      refine wp_getI (t := 88) (ji := 7) rfl fX5_26 rfl rfl (by omega) (by first | rfl | assumption) ?_
      rw [zu_na (by decide), y7]
      refine wp_iload_n (t := 89) rfl rfl ?_
      refine wp_iastore (t := 90) rfl (by omega) (by first | rfl | assumption) (by omega) (by omega) (by omega) (by first | assumption | exact hI6 _ _ | exact hI5 _ _ | exact hI4 _ _ | exact hI3 _ _ | exact hI2 _ _ | exact hI1 _ _ | exact hI0 _ _ | exact zin_and _ _ | (unfold zin; omega) | (unfold zin at *; omega)) ?_
      refine wp_canon (fun hI7 => ?_)
      refine wp_aload_n (t := 91) rfl rfl ?_
      refine wp_getR (t := 92) (ji := 5) rfl fX5_20 rfl rfl (by omega) (by first | rfl | assumption) (by first | exact hW _ _ _ (by omega) rfl | assumption) ?_
      refine wp_aload_n (t := 93) rfl rfl ?_
      refine wp_getI (t := 94) (ji := 7) rfl fX5_26 rfl rfl (by omega) (by first | rfl | assumption) ?_
      rw [zu_na (by decide), zu_na (by decide), y7]
      refine wp_iaload (t := 95) rfl (by omega) (by first | rfl | assumption) (by omega) (by omega) (by omega) ?_
      rw [zu_na (by decide), zu_eq]
      refine wp_ireturn (t := 96) rfl rfl ?_
      refine ⟨_, rfl, ⟨fun b hb => ?_, fun s q0 q1 => ?_, Or.inr ⟨hdr, by omega, ?_⟩⟩, rfl⟩
      · rw [zu_ne (by omega), zu_ne (by omega)]
        exact yf b (by omega) (by omega) (by omega) (by omega) (by omega) (by omega)
      · by_cases e : s = sl
        · subst e
          refine Or.inr ⟨I 65, ?_, ?_, ?_, ?_⟩
          · rw [zu_ne (by decide), zu_ne (by decide), yf 34 (by decide) (by decide) (by omega) (by decide) (by decide) (by decide)]
            exact hka
          · rw [zu_eq, zu_ne (by decide), zu_ne (by decide), yf 34 (by decide) (by decide) (by omega) (by decide) (by decide) (by decide)]
          · rw [zu_na (by decide), zu_eq, zu_ne (by omega), zu_ne (by omega)]
            exact hB1 (I 65) (I 65) _ _ _ _ (fun _ _ _ => rfl) (fun c c0 c1 => (y2 c c0 c1).symm) hbest
          · rw [zu_na (by decide), zu_eq]; omega
        ·
          have b85 : zu (zu I142 84 sl res.1) 85 sl (zcode (I 65) (I 34 2).toNat) 85 s = I 85 s := by rw [zu_ni e, zu_na (by decide), yf 85 (by decide) (by decide) (by omega) (by decide) (by decide) (by decide)]
          have b84 : zu (zu I142 84 sl res.1) 85 sl (zcode (I 65) (I 34 2).toNat) 84 s = I 84 s := by rw [zu_na (by decide), zu_ni e, yf 84 (by decide) (by decide) (by omega) (by decide) (by decide) (by decide)]
          have b34 : zu (zu I142 84 sl res.1) 85 sl (zcode (I 65) (I 34 2).toNat) 34 = I 34 := by rw [zu_ne (by decide), zu_ne (by decide), yf 34 (by decide) (by decide) (by omega) (by decide) (by decide) (by decide)]
          have br : zu (zu I142 84 sl res.1) 85 sl (zcode (I 65) (I 34 2).toNat) (75 + s.toNat) = I (75 + s.toNat) := by rw [zu_ne (by omega), zu_ne (by omega), yf (75 + s.toNat) (by omega) (by omega) (by omega) (by omega) (by omega) (by omega)]
          rw [b85, b84, b34, br]
          exact hca s q0 q1
      · rw [zu_ne (by omega), zu_ne (by omega)]
        exact hB1 (I 65) (I 65) _ _ _ _ (fun _ _ _ => rfl) (fun c c0 c1 => (y2 c c0 c1).symm) hbest
  have key : ∀ (m : Nat) (c s : Int) (J : zMem), 0 ≤ c → c ≤ I 34 2 → (I 34 2 - c).toNat = m → s = zcode (I 65) c.toNat → (∀ b : Nat, b ≠ 87 → J b = I b) → (∀ x : Int, 0 ≤ x → x < c → J 87 x = I 65 x) → (∀ x : Int, 0 ≤ x → x < c → I 37 x ≤ I 34 1) →
      WP G mX5_leastLength (d + 12) 0 0 0 0 5 [some (zR 72), some (zR 64), some (zI lo), some (zI s), some (zI c)] [] n J R (zP1 (fun r I' R' => ((∀ b : Nat, (b < 72 ∨ 93 < b) → I' b = I b) ∧ zCache B I' ∧ ((r = -4 ∧ ∃ c : Int, 0 ≤ c ∧ c < I 34 2 ∧ I 34 1 < I 37 c) ∨ ((∀ c : Int, 0 ≤ c → c < I 34 2 → I 37 c ≤ I 34 1) ∧ (-4 ≤ r ∧ r ≤ 1000000) ∧ B (I 65) (if lo < 0 then -1 else lo) r (I' (75 + (if lo < 0 then 0 else lo + 1).toNat))))) ∧ R' = R)) := by
    intro m
    induction m with
    | zero =>
      intro c s J h0 h1 hm hs hf hk hd
      have e34 : J 34 = I 34 := hf 34 (by decide)
      have ec : c = I 34 2 := by omega
      subst ec
      refine wp_canon (fun hI0 => ?_)
      refine wp_iload (t := 4) rfl rfl ?_
      refine wp_aload_n (t := 5) rfl rfl ?_
      refine wp_getR (t := 6) (ji := 0) rfl fX5_37 rfl rfl (by omega) (by first | rfl | assumption) (by first | exact hW _ _ _ (by omega) rfl | assumption) ?_
      refine wp_getI (t := 7) (ji := 2) rfl fX5_57 rfl rfl (by omega) (by first | rfl | assumption) ?_
      rw [e34]
      refine wp_icmp_ge (t := 8) (tgt := 75) rfl (by decide) (by first | assumption | exact hI0 _ _ | exact zin_and _ _ | (unfold zin; omega) | (unfold zin at *; omega)) (by first | assumption | exact hI0 _ _ | exact zin_and _ _ | (unfold zin; omega) | (unfold zin at *; omega)) (fun h14 => ?_) (fun h14 => ?_)
      · refine wp_aload_n (t := 40) rfl rfl ?_
        refine wp_iload_n (t := 41) rfl rfl ?_
        refine wp_if_lt (t := 42) (tgt := 92) rfl (by decide) (by first | assumption | exact hI0 _ _ | exact zin_and _ _ | (unfold zin; omega) | (unfold zin at *; omega)) (fun h77 => ?_) (fun h77 => ?_)
        · refine wp_iconst (t := 50) rfl ?_
          refine wp_putI (t := 51) (ji := 7) rfl fX5_26 p5_7 rfl rfl (by omega) (by first | rfl | assumption) (by first | assumption | exact hI0 _ _ | exact zin_and _ _ | (unfold zin; omega) | (unfold zin at *; omega)) ?_
          refine wp_canon (fun hI1 => ?_)
          subst hs
          refine slot _ _ (by first | rw [if_pos (by omega)] | rw [if_neg (by omega)]) (fun b b1 b2 => by rw [zu_ne b1]; exact hf b b2) zu_eq (fun x x0 x1 => by rw [zu_na (by decide)]; exact hk x x0 x1) hd
        · refine wp_iload_n (t := 43) rfl rfl ?_
          refine wp_bipush (t := 44) rfl (by decide) ?_
          refine wp_icmp_ge (t := 45) (tgt := 92) rfl (by decide) (by first | assumption | exact hI0 _ _ | exact zin_and _ _ | (unfold zin; omega) | (unfold zin at *; omega)) (by first | assumption | exact hI0 _ _ | exact zin_and _ _ | (unfold zin; omega) | (unfold zin at *; omega)) (fun h83 => ?_) (fun h83 => ?_)
          · refine wp_iconst (t := 50) rfl ?_
            refine wp_putI (t := 51) (ji := 7) rfl fX5_26 p5_7 rfl rfl (by omega) (by first | rfl | assumption) (by first | assumption | exact hI0 _ _ | exact zin_and _ _ | (unfold zin; omega) | (unfold zin at *; omega)) ?_
            refine wp_canon (fun hI1 => ?_)
            subst hs
            refine slot _ _ (by first | rw [if_pos (by omega)] | rw [if_neg (by omega)]) (fun b b1 b2 => by rw [zu_ne b1]; exact hf b b2) zu_eq (fun x x0 x1 => by rw [zu_na (by decide)]; exact hk x x0 x1) hd
          · refine wp_iload_n (t := 46) rfl rfl ?_
            refine wp_iconst (t := 47) rfl ?_
            refine wp_iadd (t := 48) rfl ?_
            refine wp_goto (t := 49) (tgt := 93) rfl (by decide) ?_
            refine wp_putI (t := 51) (ji := 7) rfl fX5_26 p5_7 rfl rfl (by omega) (by first | rfl | assumption) (by first | assumption | exact hI0 _ _ | exact zin_and _ _ | (unfold zin; omega) | (unfold zin at *; omega)) ?_
            refine wp_canon (fun hI1 => ?_)
            subst hs
            refine slot _ _ (by first | rw [if_pos (by omega)] | rw [if_neg (by omega)]) (fun b b1 b2 => by rw [zu_ne b1]; exact hf b b2) zu_eq (fun x x0 x1 => by rw [zu_na (by decide)]; exact hk x x0 x1) hd
      · exact absurd h14 (by omega)
    | succ m ih =>
      intro c s J h0 h1 hm hs hf hk hd
      have e34 : J 34 = I 34 := hf 34 (by decide)
      have e37 : J 37 = I 37 := hf 37 (by decide)
      have e65 : J 65 = I 65 := hf 65 (by decide)
      refine wp_canon (fun hI0 => ?_)
      refine wp_iload (t := 4) rfl rfl ?_
      refine wp_aload_n (t := 5) rfl rfl ?_
      refine wp_getR (t := 6) (ji := 0) rfl fX5_37 rfl rfl (by omega) (by first | rfl | assumption) (by first | exact hW _ _ _ (by omega) rfl | assumption) ?_
      refine wp_getI (t := 7) (ji := 2) rfl fX5_57 rfl rfl (by omega) (by first | rfl | assumption) ?_
      rw [e34]
      refine wp_icmp_ge (t := 8) (tgt := 75) rfl (by decide) (by first | assumption | exact hI0 _ _ | exact zin_and _ _ | (unfold zin; omega) | (unfold zin at *; omega)) (by first | assumption | exact hI0 _ _ | exact zin_and _ _ | (unfold zin; omega) | (unfold zin at *; omega)) (fun h14 => ?_) (fun h14 => ?_)
      · exact absurd h14 (by omega)
      · refine wp_aload_n (t := 9) rfl rfl ?_
        refine wp_getR (t := 10) (ji := 0) rfl fX5_37 rfl rfl (by omega) (by first | rfl | assumption) (by first | exact hW _ _ _ (by omega) rfl | assumption) ?_
        refine wp_getR (t := 11) (ji := 6) rfl fX5_62 rfl rfl (by omega) (by first | rfl | assumption) (by first | exact hW _ _ _ (by omega) rfl | assumption) ?_
        refine wp_iload (t := 12) rfl rfl ?_
        refine wp_iaload (t := 13) rfl (by omega) (by first | rfl | assumption) (by omega) (by omega) (by omega) ?_
        refine wp_aload_n (t := 14) rfl rfl ?_
        refine wp_getR (t := 15) (ji := 0) rfl fX5_37 rfl rfl (by omega) (by first | rfl | assumption) (by first | exact hW _ _ _ (by omega) rfl | assumption) ?_
        refine wp_getI (t := 16) (ji := 1) rfl fX5_65 rfl rfl (by omega) (by first | rfl | assumption) ?_
        rw [e34, e37]
        refine wp_icmp_le (t := 17) (tgt := 40) rfl (by decide) (by rw [← e37]; exact hI0 _ _) (by rw [← e34]; exact hI0 _ _) (fun h34 => ?_) (fun h34 => ?_)
        · refine wp_iload_n (t := 20) rfl rfl ?_
          refine wp_iconst (t := 21) rfl ?_
          refine wp_imul (t := 22) rfl ?_
          refine wp_aload_n (t := 23) rfl rfl ?_
          refine wp_getR (t := 24) (ji := 1) rfl fX5_68 rfl rfl (by omega) (by first | rfl | assumption) (by first | exact hW _ _ _ (by omega) rfl | assumption) ?_
          refine wp_iload (t := 25) rfl rfl ?_
          refine wp_iaload (t := 26) rfl (by omega) (by first | rfl | assumption) (by omega) (by omega) (by omega) ?_
          rw [e65]
          refine wp_iadd (t := 27) rfl ?_
          refine wp_istore_n (t := 28) rfl (by decide) rfl ?_
          refine wp_aload_n (t := 29) rfl rfl ?_
          refine wp_getR (t := 30) (ji := 1) rfl fX5_46 rfl rfl (by omega) (by first | rfl | assumption) (by first | exact hW _ _ _ (by omega) rfl | assumption) ?_
          refine wp_getR (t := 31) (ji := 1) rfl fX5_68 rfl rfl (by omega) (by first | rfl | assumption) (by first | exact hW _ _ _ (by omega) rfl | assumption) ?_
          refine wp_iload (t := 32) rfl rfl ?_
          refine wp_aload_n (t := 33) rfl rfl ?_
          refine wp_getR (t := 34) (ji := 1) rfl fX5_68 rfl rfl (by omega) (by first | rfl | assumption) (by first | exact hW _ _ _ (by omega) rfl | assumption) ?_
          refine wp_iload (t := 35) rfl rfl ?_
          refine wp_iaload (t := 36) rfl (by omega) (by first | rfl | assumption) (by omega) (by omega) (by omega) ?_
          rw [e65]
          refine wp_iastore (t := 37) rfl (by omega) (by first | rfl | assumption) (by omega) (by omega) (by omega) (by rw [← e65]; exact hI0 _ _) ?_
          refine wp_canon (fun hI1 => ?_)
          refine wp_iinc (t := 38) rfl rfl (by decide) rfl ?_
          refine wp_goto (t := 39) (tgt := 5) rfl (by decide) ?_
          refine ih (c + 1) _ _ (by omega) (by omega) (by omega) (by rw [zcode_succ _ h0, hs]) (fun b hb => by rw [zu_ne hb]; exact hf b hb) (fun x x0 x1 => ?_) (fun x x0 x1 => ?_)
          · by_cases e : x = c
            · rw [e]; exact zu_eq
            · rw [zu_ni e]; exact hk x x0 (by omega)
          · by_cases e : x = c
            · rw [e]; exact h34
            · exact hd x x0 (by omega)
        · refine wp_bipush (t := 18) rfl (by decide) ?_
          refine wp_ireturn (t := 19) rfl rfl ?_
          refine ⟨_, rfl, ⟨fun b hb => hf b (by omega), cache_ext J e34 (hf 85 (by decide)) (hf 84 (by decide)) (fun s hs => hf _ (by omega)), Or.inl ⟨rfl, c, h0, by omega, by omega⟩⟩, rfl⟩
  refine wp_ls (ls' := [some (zR 72), some (zR 64), some (zI lo), none, none]) rfl ?_
  refine wp_iconst (t := 0) rfl ?_
  refine wp_istore_n (t := 1) rfl (by decide) rfl ?_
  refine wp_iconst (t := 2) rfl ?_
  refine wp_istore (t := 3) rfl (by decide) rfl ?_
  exact key _ 0 1 I (by omega) (by omega) rfl rfl (fun _ _ => rfl) (fun x x0 x1 => absurd x1 (by omega)) (fun x x0 x1 => absurd x1 (by omega))
