/-! the reference: its words, its small methods -/
def zany (P : Int → Bool) : Nat → Bool
  | 0 => false
  | n + 1 => zany P n || P n
theorem zany_succ (P : Int → Bool) {b : Int} (h : 0 ≤ b) : zany P (b + 1).toNat = (zany P b.toNat || P b) := by
  rw [show (b + 1).toNat = b.toNat + 1 by omega]
  show (zany P b.toNat || P (b.toNat : Int)) = _
  rw [Int.toNat_of_nonneg h]
theorem zany_iff (P : Int → Bool) : ∀ n : Nat, zany P n = true ↔ ∃ b : Int, 0 ≤ b ∧ b < n ∧ P b = true := by
  intro n
  induction n with
  | zero => exact ⟨fun h => (by cases h), fun ⟨b, h0, h1, _⟩ => absurd h1 (by omega)⟩
  | succ n ih =>
    show (zany P n || P n) = true ↔ _
    rw [Bool.or_eq_true, ih]
    constructor
    · rintro (⟨b, h0, h1, h2⟩ | h)
      · exact ⟨b, h0, by omega, h2⟩
      · exact ⟨n, by omega, by omega, h⟩
    · rintro ⟨b, h0, h1, h2⟩
      by_cases e : b = n
      · subst e
        exact Or.inr h2
      · exact Or.inl ⟨b, h0, by omega, h2⟩
/-- rule b has a ahead of c, the rule wo left out -/
def mRu (I : zMem) (wo a c b : Int) : Bool := !decide (b = wo) && (decide (I 120 b = a) && decide (I 121 b = c))
def mA (I : zMem) (wo a c : Int) : Bool := zany (mRu I wo a c) (I 115 3).toNat
/-- the reference's plan, with the rules but wo -/
def mS (I : zMem) (wo : Int) : zS := ((I 115 2, I 115 0, I 115 1), I 117, (fun c w => I 137 (9 * c + w)), mA I wo, (fun c => I 122 (6 + c)), (fun c => I 122 (12 + c)), (fun c => I 122 (12 + c) + I 137 (9 * c + I 122 (6 + c))))
def mCh (I : zMem) : Prop := (1 ≤ I 115 2 ∧ I 115 2 ≤ 6) ∧ (1 ≤ I 115 0 ∧ I 115 0 ≤ 8) ∧ (1 ≤ I 115 1 ∧ I 115 1 ≤ 40) ∧ (0 ≤ I 115 3 ∧ I 115 3 ≤ 8) ∧
  (∀ c : Int, 0 ≤ c → c < I 115 2 → (1 ≤ I 116 c ∧ I 116 c ≤ 20) ∧ (1 ≤ I 117 c ∧ I 117 c ≤ 30) ∧ (1 ≤ I 118 c ∧ I 118 c ≤ 6) ∧ ∀ i : Int, 0 ≤ i → i < I 118 c → 1 ≤ I 119 (6 * c + i) ∧ I 119 (6 * c + i) ≤ 9)
def mPl (I : zMem) : Prop := ∀ c : Int, 0 ≤ c → c < I 115 2 → (0 ≤ I 122 c ∧ I 122 c ≤ 3) ∧ (0 ≤ I 122 (6 + c) ∧ I 122 (6 + c) ≤ I 115 0) ∧ (0 ≤ I 122 (12 + c) ∧ I 122 (12 + c) ≤ 1000000)
def mTk (I : zMem) : Prop := ∀ c w : Int, 0 ≤ c → c < I 115 2 → 1 ≤ w → w ≤ I 115 0 → 2 ≤ I 137 (9 * c + w) ∧ I 137 (9 * c + w) ≤ 2234
theorem zin_long {x : Int} (h : zin x) : zinL x := by unfold zin at h; unfold zinL; omega
/-- what the reference's plan gives -/
theorem mS_facts {I : zMem} {wo : Int} (hc : mCh I) (hp : mPl I) (ht : mTk I) : sWt (mS I wo) ∧ (0 ≤ sN (mS I wo) ∧ sN (mS I wo) ≤ 6) ∧ (∀ c : Int, 0 ≤ c → c < sN (mS I wo) → 0 ≤ sD (mS I wo) c ∧ sD (mS I wo) c ≤ 40) ∧ (∀ c : Int, 0 ≤ c → c < sN (mS I wo) → sW (mS I wo) c ≤ 8) ∧ (∀ c w : Int, 0 ≤ c → c < sN (mS I wo) → 1 ≤ w → w ≤ sL (mS I wo) → 2 ≤ sT (mS I wo) c w ∧ sT (mS I wo) c w ≤ 2234) ∧ (∀ a : Int, 0 ≤ a → a < sN (mS I wo) → 0 < sW (mS I wo) a → 0 ≤ sU (mS I wo) a ∧ sU (mS I wo) a ≤ 1010000) := by
  obtain ⟨h1, h2, h3, h4, h5⟩ := hc
  refine ⟨fun c g0 g1 => ?_, ⟨?_, ?_⟩, fun c g0 g1 => ?_, fun c g0 g1 => ?_, fun c w g0 g1 g2 g3 => ht c w g0 g1 g2 g3, fun c g0 g1 g2 => ?_⟩
  · have := (h5 c g0 g1).2.1
    show 0 ≤ I 117 c
    omega
  · show 0 ≤ I 115 2
    omega
  · show I 115 2 ≤ 6
    omega
  · have := (h5 c g0 g1).2.1
    show 0 ≤ I 117 c ∧ I 117 c ≤ 40
    omega
  · have := (hp c g0 g1).2.1
    show I 122 (6 + c) ≤ 8
    omega
  · have g := hp c g0 g1
    have g2 : 0 < I 122 (6 + c) := g2
    have := ht c (I 122 (6 + c)) g0 g1 (by omega) (by omega)
    show 0 ≤ I 122 (12 + c) + I 137 (9 * c + I 122 (6 + c)) ∧ I 122 (12 + c) + I 137 (9 * c + I 122 (6 + c)) ≤ 1010000
    omega
theorem zcmp3 (x y : Int) : (x < y ∧ zcmp x y = -1) ∨ (x = y ∧ zcmp x y = 0) ∨ (y < x ∧ zcmp x y = 1) := by
  unfold zcmp
  by_cases h : x < y
  · rw [if_pos h]
    exact Or.inl ⟨h, rfl⟩
  · rw [if_neg h]
    by_cases h2 : x = y
    · rw [if_pos h2]
      exact Or.inr (Or.inl ⟨h2, rfl⟩)
    · rw [if_neg h2]
      exact Or.inr (Or.inr ⟨by omega, rfl⟩)
set_option maxHeartbeats 4000000 in
set_option maxRecDepth 100000 in
theorem c_X10_in {G : zG} {d n : Nat} {I : zMem} {R : zRef} {v lo hi : Int} (hz1 : zinL v) (hz2 : zinL lo) (hz3 : zinL hi) : MT G mX10_in d 0 0 [zJ v, zJ lo, zJ hi] n I R (zP1 (fun r I' R' => r = (if lo ≤ v ∧ v ≤ hi then 1 else 0) ∧ I' = I ∧ R' = R)) := by
  refine MT.of (by decide +kernel) tX10_in_ok (Nat.le_of_ble_eq_true rfl) (fun hI0 => ?_)
  have q1 := zcmp3 v lo
  have q2 := zcmp3 v hi
  refine wp_ls (ls' := [some (zJ v), none, some (zJ lo), none, some (zJ hi), none]) rfl ?_
  refine wp_lload_n (t := 0) rfl rfl ?_
  refine wp_lload_n (t := 1) rfl rfl ?_
  refine wp_lcmp (t := 2) rfl hz1 hz2 ?_
  refine wp_if_lt (t := 3) (tgt := 17) rfl (by decide) (by unfold zin; omega) (fun h3 => ?_) (fun h3 => ?_)
  · refine wp_iconst (t := 10) rfl ?_
    refine wp_zreturn (t := 11) rfl rfl (by omega) ?_
    exact ⟨_, rfl, by first | rw [if_pos (by omega)] | rw [if_neg (by omega)], rfl, rfl⟩
  · refine wp_lload_n (t := 4) rfl rfl ?_
    refine wp_lload (t := 5) rfl rfl ?_
    refine wp_lcmp (t := 6) rfl hz1 hz3 ?_
    refine wp_if_gt (t := 7) (tgt := 17) rfl (by decide) (by unfold zin; omega) (fun h10 => ?_) (fun h10 => ?_)
    · refine wp_iconst (t := 10) rfl ?_
      refine wp_zreturn (t := 11) rfl rfl (by omega) ?_
      exact ⟨_, rfl, by first | rw [if_pos (by omega)] | rw [if_neg (by omega)], rfl, rfl⟩
    · refine wp_iconst (t := 8) rfl ?_
      refine wp_goto (t := 9) (tgt := 18) rfl (by decide) ?_
      refine wp_zreturn (t := 11) rfl rfl (by omega) ?_
      exact ⟨_, rfl, by first | rw [if_pos (by omega)] | rw [if_neg (by omega)], rfl, rfl⟩
set_option maxHeartbeats 4000000 in
set_option maxRecDepth 100000 in
theorem c_X10_isCore {G : zG} {d n : Nat} {I : zMem} {R : zRef} {c : Int} (hW : zWir n R) (hn : 143 ≤ n) (hc : zin c) (hco : 0 ≤ I 115 2 ∧ I 115 2 ≤ 6) : MT G mX10_isCore (d + 1) 0 0 [zR 115, zI c] n I R (zP1 (fun r I' R' => r = (if 0 ≤ c ∧ c < I 115 2 then 1 else 0) ∧ I' = I ∧ R' = R)) := by
  refine MT.of (by decide +kernel) tX10_isCore_ok (Nat.le_of_ble_eq_true rfl) (fun hI0 => ?_)
  refine wp_ls (ls' := [some (zR 115), some (zI c)]) rfl ?_
  refine wp_iload_n (t := 0) rfl rfl ?_
  refine wp_i2l (t := 1) rfl (by first | assumption | exact hI0 _ _ | exact zin_and _ _ | (unfold zin; omega) | (unfold zin at *; omega)) ?_
  refine wp_lconst 0 (t := 2) rfl (by decide) ?_
  refine wp_aload_n (t := 3) rfl rfl ?_
  refine wp_getI (t := 4) (ji := 2) rfl fX10_115 rfl rfl (by omega) (by first | rfl | assumption) ?_
  refine wp_iconst (t := 5) rfl ?_
  refine wp_isub (t := 6) rfl ?_
  refine wp_i2l (t := 7) rfl (by first | assumption | exact hI0 _ _ | exact zin_and _ _ | (unfold zin; omega) | (unfold zin at *; omega)) ?_
  refine wp_si (c_X10_in (d := d) (zin_long hc) (by unfold zinL; omega) (by unfold zinL; omega)) (t := 8) rfl kX10_124 rfl rfl (Nat.le_of_ble_eq_true rfl) ⟨Nat.le_refl _, Nat.le_refl _⟩ (fun r10 I10 R10 c10 => ?_)
  refine wp_canon (fun hI1 => ?_)
  obtain ⟨e10, rfl, rfl⟩ := c10
  refine wp_zreturn (t := 9) rfl rfl (by rw [e10]; split <;> omega) ?_
  refine ⟨_, rfl, e10.trans ?_, rfl, rfl⟩
  by_cases q : 0 ≤ c ∧ c < I10 115 2
  · rw [if_pos q, if_pos (by omega)]
  · rw [if_neg q, if_neg (by omega)]
set_option maxHeartbeats 4000000 in
set_option maxRecDepth 100000 in
theorem c_X10_isWidth {G : zG} {d n : Nat} {I : zMem} {R : zRef} {c : Int} (hW : zWir n R) (hn : 143 ≤ n) (hc : zin c) : MT G mX10_isWidth (d + 1) 0 0 [zR 115, zI c] n I R (zP1 (fun r I' R' => r = (if 1 ≤ c ∧ c ≤ I 115 0 then 1 else 0) ∧ I' = I ∧ R' = R)) := by
  refine MT.of (by decide +kernel) tX10_isWidth_ok (Nat.le_of_ble_eq_true rfl) (fun hI0 => ?_)
  refine wp_ls (ls' := [some (zR 115), some (zI c)]) rfl ?_
  refine wp_iload_n (t := 0) rfl rfl ?_
  refine wp_i2l (t := 1) rfl (by first | assumption | exact hI0 _ _ | exact zin_and _ _ | (unfold zin; omega) | (unfold zin at *; omega)) ?_
  refine wp_lconst 1 (t := 2) rfl (by decide) ?_
  refine wp_aload_n (t := 3) rfl rfl ?_
  refine wp_getI (t := 4) (ji := 0) rfl fX10_91 rfl rfl (by omega) (by first | rfl | assumption) ?_
  refine wp_i2l (t := 5) rfl (by first | assumption | exact hI0 _ _ | exact zin_and _ _ | (unfold zin; omega) | (unfold zin at *; omega)) ?_
  refine wp_si (c_X10_in (d := d) (zin_long hc) (by unfold zinL; omega) (zin_long (hI0 _ _))) (t := 6) rfl kX10_124 rfl rfl (Nat.le_of_ble_eq_true rfl) ⟨Nat.le_refl _, Nat.le_refl _⟩ (fun r8 I8 R8 c8 => ?_)
  refine wp_canon (fun hI1 => ?_)
  obtain ⟨e10, rfl, rfl⟩ := c8
  refine wp_zreturn (t := 7) rfl rfl (by rw [e10]; split <;> omega) ?_
  exact ⟨_, rfl, e10, rfl, rfl⟩
set_option maxHeartbeats 4000000 in
set_option maxRecDepth 100000 in
theorem c_X10_isPut {G : zG} {d n : Nat} {I : zMem} {R : zRef} {c : Int} (hW : zWir n R) (hn : 143 ≤ n) (hc : 0 ≤ c ∧ c < 6) : MT G mX10_isPut d 0 0 [zR 115, zI c] n I R (zP1 (fun r I' R' => r = (if 0 < I 122 (6 + c) then 1 else 0) ∧ I' = I ∧ R' = R)) := by
  refine MT.of (by decide +kernel) tX10_isPut_ok (Nat.le_of_ble_eq_true rfl) (fun hI0 => ?_)
  refine wp_ls (ls' := [some (zR 115), some (zI c)]) rfl ?_
  refine wp_aload_n (t := 0) rfl rfl ?_
  refine wp_getR (t := 1) (ji := 10) rfl fX10_28 rfl rfl (by omega) (by first | rfl | assumption) (by first | exact hW _ _ _ (by omega) rfl | assumption) ?_
  refine wp_bipush (t := 2) rfl (by decide) ?_
  refine wp_iload_n (t := 3) rfl rfl ?_
  refine wp_iadd (t := 4) rfl ?_
  refine wp_iaload (t := 5) rfl (by omega) (by first | rfl | assumption) (by omega) (by omega) (by omega) ?_
  refine wp_if_le (t := 6) (tgt := 16) rfl (by decide) (by first | assumption | exact hI0 _ _ | exact zin_and _ _ | (unfold zin; omega) | (unfold zin at *; omega)) (fun h9 => ?_) (fun h9 => ?_)
  · refine wp_iconst (t := 9) rfl ?_
    refine wp_zreturn (t := 10) rfl rfl (by omega) ?_
    exact ⟨_, rfl, by first | rw [if_pos (by omega)] | rw [if_neg (by omega)], rfl, rfl⟩
  · refine wp_iconst (t := 7) rfl ?_
    refine wp_goto (t := 8) (tgt := 17) rfl (by decide) ?_
    refine wp_zreturn (t := 10) rfl rfl (by omega) ?_
    exact ⟨_, rfl, by first | rw [if_pos (by omega)] | rw [if_neg (by omega)], rfl, rfl⟩
set_option maxHeartbeats 4000000 in
set_option maxRecDepth 100000 in
theorem c_X10_endOf {G : zG} {d n : Nat} {I : zMem} {R : zRef} {c : Int} (hW : zWir n R) (hn : 143 ≤ n) (hc : 0 ≤ c ∧ c < 6) (hw : 0 ≤ I 122 (6 + c) ∧ I 122 (6 + c) ≤ 8) : MT G mX10_endOf d 0 0 [zR 115, zI c] n I R (zP1 (fun r I' R' => r = I 122 (12 + c) + I 137 (9 * c + I 122 (6 + c)) ∧ I' = I ∧ R' = R)) := by
  refine MT.of (by decide +kernel) tX10_endOf_ok (Nat.le_of_ble_eq_true rfl) (fun hI0 => ?_)
  refine wp_ls (ls' := [some (zR 115), some (zI c)]) rfl ?_
  refine wp_aload_n (t := 0) rfl rfl ?_
  refine wp_getR (t := 1) (ji := 10) rfl fX10_28 rfl rfl (by omega) (by first | rfl | assumption) (by first | exact hW _ _ _ (by omega) rfl | assumption) ?_
  refine wp_bipush (t := 2) rfl (by decide) ?_
  refine wp_iload_n (t := 3) rfl rfl ?_
  refine wp_iadd (t := 4) rfl ?_
  refine wp_iaload (t := 5) rfl (by omega) (by first | rfl | assumption) (by omega) (by omega) (by omega) ?_
  refine wp_aload_n (t := 6) rfl rfl ?_
  refine wp_getR (t := 7) (ji := 36) rfl fX10_73 rfl rfl (by omega) (by first | rfl | assumption) (by first | exact hW _ _ _ (by omega) rfl | assumption) ?_
  refine wp_bipush (t := 8) rfl (by decide) ?_
  refine wp_iload_n (t := 9) rfl rfl ?_
  refine wp_imul (t := 10) rfl ?_
  refine wp_aload_n (t := 11) rfl rfl ?_
  refine wp_getR (t := 12) (ji := 10) rfl fX10_28 rfl rfl (by omega) (by first | rfl | assumption) (by first | exact hW _ _ _ (by omega) rfl | assumption) ?_
  refine wp_bipush (t := 13) rfl (by decide) ?_
  refine wp_iload_n (t := 14) rfl rfl ?_
  refine wp_iadd (t := 15) rfl ?_
  refine wp_iaload (t := 16) rfl (by omega) (by first | rfl | assumption) (by omega) (by omega) (by omega) ?_
  refine wp_iadd (t := 17) rfl ?_
  refine wp_iaload (t := 18) rfl (by omega) (by first | rfl | assumption) (by omega) (by omega) (by omega) ?_
  refine wp_iadd (t := 19) rfl ?_
  refine wp_ireturn (t := 20) rfl rfl ?_
  exact ⟨_, rfl, rfl, rfl, rfl⟩
set_option maxHeartbeats 4000000 in
set_option maxRecDepth 100000 in
theorem c_X10_putAt {G : zG} {d n : Nat} {I : zMem} {R : zRef} {c w t : Int} (hW : zWir n R) (hn : 143 ≤ n) (hc : 0 ≤ c ∧ c < 6) (hw : zin w) (ht : zin t) : MT G mX10_putAt d 0 0 [zR 115, zI c, zI w, zI t] n I R (zP0 (fun I' R' => I' = zu (zu I 122 (6 + c) w) 122 (12 + c) t ∧ R' = R)) := by
  refine MT.of (by decide +kernel) tX10_putAt_ok (Nat.le_of_ble_eq_true rfl) (fun hI0 => ?_)
  refine wp_ls (ls' := [some (zR 115), some (zI c), some (zI w), some (zI t)]) rfl ?_
  refine wp_aload_n (t := 0) rfl rfl ?_
  refine wp_getR (t := 1) (ji := 10) rfl fX10_28 rfl rfl (by omega) (by first | rfl | assumption) (by first | exact hW _ _ _ (by omega) rfl | assumption) ?_
  refine wp_bipush (t := 2) rfl (by decide) ?_
  refine wp_iload_n (t := 3) rfl rfl ?_
  refine wp_iadd (t := 4) rfl ?_
  refine wp_iload_n (t := 5) rfl rfl ?_
  refine wp_iastore (t := 6) rfl (by omega) (by first | rfl | assumption) (by omega) (by omega) (by omega) (by first | assumption | exact hI0 _ _ | exact zin_and _ _ | (unfold zin; omega) | (unfold zin at *; omega)) ?_
  refine wp_canon (fun hI1 => ?_)
  refine wp_aload_n (t := 7) rfl rfl ?_
  refine wp_getR (t := 8) (ji := 10) rfl fX10_28 rfl rfl (by omega) (by first | rfl | assumption) (by first | exact hW _ _ _ (by omega) rfl | assumption) ?_
  refine wp_bipush (t := 9) rfl (by decide) ?_
  refine wp_iload_n (t := 10) rfl rfl ?_
  refine wp_iadd (t := 11) rfl ?_
  refine wp_iload_n (t := 12) rfl rfl ?_
  refine wp_iastore (t := 13) rfl (by omega) (by first | rfl | assumption) (by omega) (by omega) (by omega) (by first | assumption | exact hI1 _ _ | exact hI0 _ _ | exact zin_and _ _ | (unfold zin; omega) | (unfold zin at *; omega)) ?_
  refine wp_canon (fun hI2 => ?_)
  refine wp_return (t := 14) rfl rfl ?_
  exact ⟨rfl, rfl, rfl⟩
set_option maxHeartbeats 4000000 in
set_option maxRecDepth 100000 in
theorem c_X10_isAhead {G : zG} {d n : Nat} {I : zMem} {R : zRef} {a c wo : Int} (hW : zWir n R) (hn : 143 ≤ n) (hru : 0 ≤ I 115 3 ∧ I 115 3 ≤ 8) (ha : zin a) (hc : zin c) (hwo : zin wo) : MT G mX10_isAhead d 0 0 [zR 115, zI a, zI c, zI wo] n I R (zP1 (fun r I' R' => r = (if mA I wo a c = true then 1 else 0) ∧ I' = I ∧ R' = R)) := by
  refine MT.of (by decide +kernel) tX10_isAhead_ok (Nat.le_of_ble_eq_true rfl) (fun hI0 => ?_)
  have key : ∀ (m : Nat) (b s : Int), 0 ≤ b → b ≤ I 115 3 → (I 115 3 - b).toNat = m → s = (if zany (mRu I wo a c) b.toNat = true then 1 else 0) → WP G mX10_isAhead d 0 0 0 0 6 [some (zR 115), some (zI a), some (zI c), some (zI wo), some (zI s), some (zI b)] [] n I R (zP1 (fun r I' R' => r = (if mA I wo a c = true then 1 else 0) ∧ I' = I ∧ R' = R)) := by
    intro m
    induction m with
    | zero =>
      intro b s h0 h1 hm hs
      have sb : 0 ≤ s ∧ s ≤ 1 := by rw [hs]; split <;> omega
      refine wp_iload (t := 4) rfl rfl ?_
      refine wp_aload_n (t := 5) rfl rfl ?_
      refine wp_getI (t := 6) (ji := 3) rfl fX10_121 rfl rfl (by omega) (by first | rfl | assumption) ?_
      refine wp_icmp_ge (t := 7) (tgt := 61) rfl (by decide) (by first | assumption | exact hI0 _ _ | exact zin_and _ _ | (unfold zin; omega) | (unfold zin at *; omega)) (by first | assumption | exact hI0 _ _ | exact zin_and _ _ | (unfold zin; omega) | (unfold zin at *; omega)) (fun h12 => ?_) (fun h12 => ?_)
      · refine wp_iload (t := 31) rfl rfl ?_
        refine wp_zreturn (t := 32) rfl rfl (by omega) ?_
        exact ⟨_, rfl, by rw [hs, show b = I 115 3 by omega]; rfl, rfl, rfl⟩
      · exact absurd h12 (by omega)
    | succ m ih =>
      intro b s h0 h1 hm hs
      have sb : 0 ≤ s ∧ s ≤ 1 := by rw [hs]; split <;> omega
      refine wp_iload (t := 4) rfl rfl ?_
      refine wp_aload_n (t := 5) rfl rfl ?_
      refine wp_getI (t := 6) (ji := 3) rfl fX10_121 rfl rfl (by omega) (by first | rfl | assumption) ?_
      refine wp_icmp_ge (t := 7) (tgt := 61) rfl (by decide) (by first | assumption | exact hI0 _ _ | exact zin_and _ _ | (unfold zin; omega) | (unfold zin at *; omega)) (by first | assumption | exact hI0 _ _ | exact zin_and _ _ | (unfold zin; omega) | (unfold zin at *; omega)) (fun h12 => ?_) (fun h12 => ?_)
      · exact absurd h12 (by omega)
      · refine wp_iload (t := 8) rfl rfl ?_
        refine wp_if_ne (t := 9) (tgt := 48) rfl (by decide) (by first | assumption | exact hI0 _ _ | exact zin_and _ _ | (unfold zin; omega) | (unfold zin at *; omega)) (fun h17 => ?_) (fun h17 => ?_)
        · refine wp_iconst (t := 25) rfl ?_
          refine wp_goto (t := 26) (tgt := 53) rfl (by decide) ?_
          refine wp_istore (t := 28) rfl (by decide) rfl ?_
          refine wp_iinc (t := 29) rfl rfl (by decide) rfl ?_
          refine wp_goto (t := 30) (tgt := 6) rfl (by decide) ?_
          refine ih (b + 1) _ (by omega) (by omega) (by omega) ?_
          rw [zany_succ _ h0]
          first
            | (have q : zany (mRu I wo a c) b.toNat = true := by
                 by_cases q : zany (mRu I wo a c) b.toNat = true
                 · exact q
                 · rw [if_neg q] at hs; omega
               rw [q]; rfl)
            | (have q : mRu I wo a c b = true := by
                 unfold mRu
                 rw [decide_eq_false (show ¬ b = wo by omega), decide_eq_true (show I 120 b = a by omega), decide_eq_true (show I 121 b = c by omega)]
                 rfl
               rw [q, Bool.or_true]; rfl)
            | (have q1 : ¬ zany (mRu I wo a c) b.toNat = true := fun q => by rw [if_pos q] at hs; omega
               have q : mRu I wo a c b = false := by
                 unfold mRu
                 first
                   | (rw [decide_eq_true (show b = wo by omega)]; rfl)
                   | (rw [decide_eq_false (show ¬ I 120 b = a by omega), Bool.false_and, Bool.and_false])
                   | (rw [decide_eq_false (show ¬ I 121 b = c by omega), Bool.and_false, Bool.and_false])
               rw [q, Bool.or_false, if_neg q1])
        · refine wp_iload (t := 10) rfl rfl ?_
          refine wp_iload_n (t := 11) rfl rfl ?_
          refine wp_icmp_eq (t := 12) (tgt := 52) rfl (by decide) (by first | assumption | exact hI0 _ _ | exact zin_and _ _ | (unfold zin; omega) | (unfold zin at *; omega)) (by first | assumption | exact hI0 _ _ | exact zin_and _ _ | (unfold zin; omega) | (unfold zin at *; omega)) (fun h23 => ?_) (fun h23 => ?_)
          · refine wp_iconst (t := 27) rfl ?_
            refine wp_istore (t := 28) rfl (by decide) rfl ?_
            refine wp_iinc (t := 29) rfl rfl (by decide) rfl ?_
            refine wp_goto (t := 30) (tgt := 6) rfl (by decide) ?_
            refine ih (b + 1) _ (by omega) (by omega) (by omega) ?_
            rw [zany_succ _ h0]
            first
              | (have q : zany (mRu I wo a c) b.toNat = true := by
                   by_cases q : zany (mRu I wo a c) b.toNat = true
                   · exact q
                   · rw [if_neg q] at hs; omega
                 rw [q]; rfl)
              | (have q : mRu I wo a c b = true := by
                   unfold mRu
                   rw [decide_eq_false (show ¬ b = wo by omega), decide_eq_true (show I 120 b = a by omega), decide_eq_true (show I 121 b = c by omega)]
                   rfl
                 rw [q, Bool.or_true]; rfl)
              | (have q1 : ¬ zany (mRu I wo a c) b.toNat = true := fun q => by rw [if_pos q] at hs; omega
                 have q : mRu I wo a c b = false := by
                   unfold mRu
                   first
                     | (rw [decide_eq_true (show b = wo by omega)]; rfl)
                     | (rw [decide_eq_false (show ¬ I 120 b = a by omega), Bool.false_and, Bool.and_false])
                     | (rw [decide_eq_false (show ¬ I 121 b = c by omega), Bool.and_false, Bool.and_false])
                 rw [q, Bool.or_false, if_neg q1])
          · refine wp_aload_n (t := 13) rfl rfl ?_
            refine wp_getR (t := 14) (ji := 8) rfl fX10_22 rfl rfl (by omega) (by first | rfl | assumption) (by first | exact hW _ _ _ (by omega) rfl | assumption) ?_
            refine wp_iload (t := 15) rfl rfl ?_
            refine wp_iaload (t := 16) rfl (by omega) (by first | rfl | assumption) (by omega) (by omega) (by omega) ?_
            refine wp_iload_n (t := 17) rfl rfl ?_
            refine wp_icmp_ne (t := 18) (tgt := 52) rfl (by decide) (by first | assumption | exact hI0 _ _ | exact zin_and _ _ | (unfold zin; omega) | (unfold zin at *; omega)) (by first | assumption | exact hI0 _ _ | exact zin_and _ _ | (unfold zin; omega) | (unfold zin at *; omega)) (fun h34 => ?_) (fun h34 => ?_)
            · refine wp_iconst (t := 27) rfl ?_
              refine wp_istore (t := 28) rfl (by decide) rfl ?_
              refine wp_iinc (t := 29) rfl rfl (by decide) rfl ?_
              refine wp_goto (t := 30) (tgt := 6) rfl (by decide) ?_
              refine ih (b + 1) _ (by omega) (by omega) (by omega) ?_
              rw [zany_succ _ h0]
              first
                | (have q : zany (mRu I wo a c) b.toNat = true := by
                     by_cases q : zany (mRu I wo a c) b.toNat = true
                     · exact q
                     · rw [if_neg q] at hs; omega
                   rw [q]; rfl)
                | (have q : mRu I wo a c b = true := by
                     unfold mRu
                     rw [decide_eq_false (show ¬ b = wo by omega), decide_eq_true (show I 120 b = a by omega), decide_eq_true (show I 121 b = c by omega)]
                     rfl
                   rw [q, Bool.or_true]; rfl)
                | (have q1 : ¬ zany (mRu I wo a c) b.toNat = true := fun q => by rw [if_pos q] at hs; omega
                   have q : mRu I wo a c b = false := by
                     unfold mRu
                     first
                       | (rw [decide_eq_true (show b = wo by omega)]; rfl)
                       | (rw [decide_eq_false (show ¬ I 120 b = a by omega), Bool.false_and, Bool.and_false])
                       | (rw [decide_eq_false (show ¬ I 121 b = c by omega), Bool.and_false, Bool.and_false])
                   rw [q, Bool.or_false, if_neg q1])
            · refine wp_aload_n (t := 19) rfl rfl ?_
              refine wp_getR (t := 20) (ji := 9) rfl fX10_25 rfl rfl (by omega) (by first | rfl | assumption) (by first | exact hW _ _ _ (by omega) rfl | assumption) ?_
              refine wp_iload (t := 21) rfl rfl ?_
              refine wp_iaload (t := 22) rfl (by omega) (by first | rfl | assumption) (by omega) (by omega) (by omega) ?_
              refine wp_iload_n (t := 23) rfl rfl ?_
              refine wp_icmp_ne (t := 24) (tgt := 52) rfl (by decide) (by first | assumption | exact hI0 _ _ | exact zin_and _ _ | (unfold zin; omega) | (unfold zin at *; omega)) (by first | assumption | exact hI0 _ _ | exact zin_and _ _ | (unfold zin; omega) | (unfold zin at *; omega)) (fun h45 => ?_) (fun h45 => ?_)
              · refine wp_iconst (t := 27) rfl ?_
                refine wp_istore (t := 28) rfl (by decide) rfl ?_
                refine wp_iinc (t := 29) rfl rfl (by decide) rfl ?_
                refine wp_goto (t := 30) (tgt := 6) rfl (by decide) ?_
                refine ih (b + 1) _ (by omega) (by omega) (by omega) ?_
                rw [zany_succ _ h0]
                first
                  | (have q : zany (mRu I wo a c) b.toNat = true := by
                       by_cases q : zany (mRu I wo a c) b.toNat = true
                       · exact q
                       · rw [if_neg q] at hs; omega
                     rw [q]; rfl)
                  | (have q : mRu I wo a c b = true := by
                       unfold mRu
                       rw [decide_eq_false (show ¬ b = wo by omega), decide_eq_true (show I 120 b = a by omega), decide_eq_true (show I 121 b = c by omega)]
                       rfl
                     rw [q, Bool.or_true]; rfl)
                  | (have q1 : ¬ zany (mRu I wo a c) b.toNat = true := fun q => by rw [if_pos q] at hs; omega
                     have q : mRu I wo a c b = false := by
                       unfold mRu
                       first
                         | (rw [decide_eq_true (show b = wo by omega)]; rfl)
                         | (rw [decide_eq_false (show ¬ I 120 b = a by omega), Bool.false_and, Bool.and_false])
                         | (rw [decide_eq_false (show ¬ I 121 b = c by omega), Bool.and_false, Bool.and_false])
                     rw [q, Bool.or_false, if_neg q1])
              · refine wp_iconst (t := 25) rfl ?_
                refine wp_goto (t := 26) (tgt := 53) rfl (by decide) ?_
                refine wp_istore (t := 28) rfl (by decide) rfl ?_
                refine wp_iinc (t := 29) rfl rfl (by decide) rfl ?_
                refine wp_goto (t := 30) (tgt := 6) rfl (by decide) ?_
                refine ih (b + 1) _ (by omega) (by omega) (by omega) ?_
                rw [zany_succ _ h0]
                first
                  | (have q : zany (mRu I wo a c) b.toNat = true := by
                       by_cases q : zany (mRu I wo a c) b.toNat = true
                       · exact q
                       · rw [if_neg q] at hs; omega
                     rw [q]; rfl)
                  | (have q : mRu I wo a c b = true := by
                       unfold mRu
                       rw [decide_eq_false (show ¬ b = wo by omega), decide_eq_true (show I 120 b = a by omega), decide_eq_true (show I 121 b = c by omega)]
                       rfl
                     rw [q, Bool.or_true]; rfl)
                  | (have q1 : ¬ zany (mRu I wo a c) b.toNat = true := fun q => by rw [if_pos q] at hs; omega
                     have q : mRu I wo a c b = false := by
                       unfold mRu
                       first
                         | (rw [decide_eq_true (show b = wo by omega)]; rfl)
                         | (rw [decide_eq_false (show ¬ I 120 b = a by omega), Bool.false_and, Bool.and_false])
                         | (rw [decide_eq_false (show ¬ I 121 b = c by omega), Bool.and_false, Bool.and_false])
                     rw [q, Bool.or_false, if_neg q1])
  refine wp_ls (ls' := [some (zR 115), some (zI a), some (zI c), some (zI wo), none, none]) rfl ?_
  refine wp_iconst (t := 0) rfl ?_
  refine wp_istore (t := 1) rfl (by decide) rfl ?_
  refine wp_iconst (t := 2) rfl ?_
  refine wp_istore (t := 3) rfl (by decide) rfl ?_
  exact key _ 0 0 (by omega) (by omega) rfl rfl
set_option maxHeartbeats 4000000 in
set_option maxRecDepth 100000 in
theorem c_X10_runsIn {G : zG} {d n : Nat} {I : zMem} {R : zRef} {wo t what : Int} (hW : zWir n R) (hn : 143 ≤ n) (hch : mCh I) (hpl : mPl I) (htk : mTk I) (hz1 : zin what) (hz2 : zin t) : MT G mX10_runsIn (d + 1) 0 0 [zR 115, zI t, zI what] n I R (zP1 (fun r I' R' => r = sUse (mS I wo) what t ∧ I' = I ∧ R' = R)) := by
  refine MT.of (by decide +kernel) tX10_runsIn_ok (Nat.le_of_ble_eq_true rfl) (fun hI0 => ?_)
  have hco := hch.1
  have hli := hch.2.1
  obtain ⟨f1, f2, f3, f4, f5, f6⟩ := mS_facts (wo := wo) hch hpl htk
  have key : ∀ (m : Nat) (c s : Int) (x5 : Option zV), 0 ≤ c → c ≤ I 115 2 → (I 115 2 - c).toNat = m → s = zsum (fun c => if 0 < I 122 (6 + c) ∧ I 122 (12 + c) ≤ t ∧ t < I 122 (12 + c) + I 137 (9 * c + I 122 (6 + c)) then (if what = 0 then I 122 (6 + c) else if what = 1 then I 117 c else zishl 1 c) else 0) c.toNat → WP G mX10_runsIn (d + 1) 0 0 0 0 5 [some (zR 115), some (zI t), some (zI what), some (zI s), some (zI c), x5] [] n I R (zP1 (fun r I' R' => r = sUse (mS I wo) what t ∧ I' = I ∧ R' = R)) := by
    intro m
    induction m with
    | zero =>
      intro c s x5 h0 h1 hm hs
      refine wp_iload (t := 4) rfl rfl ?_
      refine wp_aload_n (t := 5) rfl rfl ?_
      refine wp_getI (t := 6) (ji := 2) rfl fX10_115 rfl rfl (by omega) (by first | rfl | assumption) ?_
      refine wp_icmp_ge (t := 7) (tgt := 112) rfl (by decide) (by first | assumption | exact hI0 _ _ | exact zin_and _ _ | (unfold zin; omega) | (unfold zin at *; omega)) (by first | assumption | exact hI0 _ _ | exact zin_and _ _ | (unfold zin; omega) | (unfold zin at *; omega)) (fun h11 => ?_) (fun h11 => ?_)
      · refine wp_iload_n (t := 62) rfl rfl ?_
        refine wp_ireturn (t := 63) rfl rfl ?_
        exact ⟨_, rfl, by rw [hs, show c = I 115 2 by omega]; rfl, rfl, rfl⟩
      · exact absurd h11 (by omega)
    | succ m ih =>
      intro c s x5 h0 h1 hm hs
      have hpc := hpl c h0 (by omega)
      refine wp_iload (t := 4) rfl rfl ?_
      refine wp_aload_n (t := 5) rfl rfl ?_
      refine wp_getI (t := 6) (ji := 2) rfl fX10_115 rfl rfl (by omega) (by first | rfl | assumption) ?_
      refine wp_icmp_ge (t := 7) (tgt := 112) rfl (by decide) (by first | assumption | exact hI0 _ _ | exact zin_and _ _ | (unfold zin; omega) | (unfold zin at *; omega)) (by first | assumption | exact hI0 _ _ | exact zin_and _ _ | (unfold zin; omega) | (unfold zin at *; omega)) (fun h11 => ?_) (fun h11 => ?_)
      · exact absurd h11 (by omega)
      · refine wp_aload_n (t := 8) rfl rfl ?_
        refine wp_iload (t := 9) rfl rfl ?_
        refine wp_vi (ci := 10) (c_X10_isPut (d := d) hW hn ⟨h0, by omega⟩) (t := 10) rfl kX10_215 rfl rfl (by omega) (by first | rfl | assumption) ⟨_, _, rfl⟩ (Nat.le_of_ble_eq_true rfl) ⟨Nat.le_refl _, Nat.le_refl _⟩ (fun r17 I17 R17 c17 => ?_)
        refine wp_canon (fun hI1 => ?_)
        obtain ⟨e17, rfl, rfl⟩ := c17
        refine wp_if_eq (t := 11) (tgt := 55) rfl (by decide) (by rw [e17]; unfold zin; split <;> omega) (fun h20 => ?_) (fun h20 => ?_)
        · refine wp_iconst (t := 31) rfl ?_
          refine wp_istore (t := 32) rfl (by decide) rfl ?_
          refine wp_iload_n (t := 33) rfl rfl ?_
          refine wp_iload (t := 34) rfl rfl ?_
          refine wp_if_ne (t := 35) (tgt := 68) rfl (by decide) (by first | assumption | exact hI1 _ _ | exact hI0 _ _ | exact zin_and _ _ | (unfold zin; omega) | (unfold zin at *; omega)) (fun h61 => ?_) (fun h61 => ?_)
          · exact absurd h61 (by omega)
          · refine wp_iconst (t := 36) rfl ?_
            refine wp_goto (t := 37) (tgt := 104) rfl (by decide) ?_
            refine wp_iadd (t := 58) rfl ?_
            refine wp_istore_n (t := 59) rfl (by decide) rfl ?_
            refine wp_iinc (t := 60) rfl rfl (by decide) rfl ?_
            refine wp_goto (t := 61) (tgt := 5) rfl (by decide) ?_
            refine ih (c + 1) _ _ (by omega) (by omega) (by omega) ?_
            rw [zsum_succ _ h0, ← hs]
            rw [if_neg (fun q => by rw [if_pos q.1] at e17; omega), Int.add_zero]
        · have p17 : 0 < I17 122 (6 + c) := by by_cases q : 0 < I17 122 (6 + c); exact q; rw [if_neg q] at e17; omega
          have tk := htk c (I17 122 (6 + c)) h0 (by omega) (by omega) (by omega)
          refine wp_iload_n (t := 12) rfl rfl ?_
          refine wp_i2l (t := 13) rfl (by first | assumption | exact hI1 _ _ | exact hI0 _ _ | exact zin_and _ _ | (unfold zin; omega) | (unfold zin at *; omega)) ?_
          refine wp_aload_n (t := 14) rfl rfl ?_
          refine wp_getR (t := 15) (ji := 10) rfl fX10_28 rfl rfl (by omega) (by first | rfl | assumption) (by first | exact hW _ _ _ (by omega) rfl | assumption) ?_
          refine wp_bipush (t := 16) rfl (by decide) ?_
          refine wp_iload (t := 17) rfl rfl ?_
          refine wp_iadd (t := 18) rfl ?_
          refine wp_iaload (t := 19) rfl (by omega) (by first | rfl | assumption) (by omega) (by omega) (by omega) ?_
          refine wp_i2l (t := 20) rfl (by first | assumption | exact hI1 _ _ | exact hI0 _ _ | exact zin_and _ _ | (unfold zin; omega) | (unfold zin at *; omega)) ?_
          refine wp_aload_n (t := 21) rfl rfl ?_
          refine wp_iload (t := 22) rfl rfl ?_
          refine wp_vi (ci := 10) (c_X10_endOf (d := d) hW hn ⟨h0, by omega⟩ ⟨by omega, by omega⟩) (t := 23) rfl kX10_228 rfl rfl (by omega) (by first | rfl | assumption) ⟨_, _, rfl⟩ (Nat.le_of_ble_eq_true rfl) ⟨Nat.le_refl _, Nat.le_refl _⟩ (fun r39 I39 R39 c39 => ?_)
          refine wp_canon (fun hI2 => ?_)
          obtain ⟨e39, rfl, rfl⟩ := c39
          refine wp_iconst (t := 24) rfl ?_
          refine wp_isub (t := 25) rfl ?_
          refine wp_i2l (t := 26) rfl (by first | assumption | exact hI2 _ _ | exact hI1 _ _ | exact hI0 _ _ | exact zin_and _ _ | (unfold zin; omega) | (unfold zin at *; omega)) ?_
          refine wp_si (c_X10_in (d := d) (zin_long hz2) (zin_long (hI0 _ _)) (by unfold zinL; omega)) (t := 27) rfl kX10_124 rfl rfl (Nat.le_of_ble_eq_true rfl) ⟨Nat.le_refl _, Nat.le_refl _⟩ (fun r45 I45 R45 c45 => ?_)
          refine wp_canon (fun hI3 => ?_)
          obtain ⟨e45, rfl, rfl⟩ := c45
          refine wp_if_eq (t := 28) (tgt := 55) rfl (by decide) (by rw [e45]; unfold zin; split <;> omega) (fun h48 => ?_) (fun h48 => ?_)
          · refine wp_iconst (t := 31) rfl ?_
            refine wp_istore (t := 32) rfl (by decide) rfl ?_
            refine wp_iload_n (t := 33) rfl rfl ?_
            refine wp_iload (t := 34) rfl rfl ?_
            refine wp_if_ne (t := 35) (tgt := 68) rfl (by decide) (by first | assumption | exact hI3 _ _ | exact hI2 _ _ | exact hI1 _ _ | exact hI0 _ _ | exact zin_and _ _ | (unfold zin; omega) | (unfold zin at *; omega)) (fun h61 => ?_) (fun h61 => ?_)
            · exact absurd h61 (by omega)
            · refine wp_iconst (t := 36) rfl ?_
              refine wp_goto (t := 37) (tgt := 104) rfl (by decide) ?_
              refine wp_iadd (t := 58) rfl ?_
              refine wp_istore_n (t := 59) rfl (by decide) rfl ?_
              refine wp_iinc (t := 60) rfl rfl (by decide) rfl ?_
              refine wp_goto (t := 61) (tgt := 5) rfl (by decide) ?_
              refine ih (c + 1) _ _ (by omega) (by omega) (by omega) ?_
              rw [zsum_succ _ h0, ← hs]
              rw [if_neg (fun q => by rw [if_pos (by omega)] at e45; omega), Int.add_zero]
          · refine wp_iconst (t := 29) rfl ?_
            refine wp_goto (t := 30) (tgt := 56) rfl (by decide) ?_
            refine wp_istore (t := 32) rfl (by decide) rfl ?_
            refine wp_iload_n (t := 33) rfl rfl ?_
            refine wp_iload (t := 34) rfl rfl ?_
            refine wp_if_ne (t := 35) (tgt := 68) rfl (by decide) (by first | assumption | exact hI3 _ _ | exact hI2 _ _ | exact hI1 _ _ | exact hI0 _ _ | exact zin_and _ _ | (unfold zin; omega) | (unfold zin at *; omega)) (fun h61 => ?_) (fun h61 => ?_)
            · refine wp_iload_n (t := 38) rfl rfl ?_
              refine wp_if_ne (t := 39) (tgt := 85) rfl (by decide) (by first | assumption | exact hI3 _ _ | exact hI2 _ _ | exact hI1 _ _ | exact hI0 _ _ | exact zin_and _ _ | (unfold zin; omega) | (unfold zin at *; omega)) (fun h69 => ?_) (fun h69 => ?_)
              · refine wp_iload_n (t := 47) rfl rfl ?_
                refine wp_iconst (t := 48) rfl ?_
                refine wp_icmp_ne (t := 49) (tgt := 100) rfl (by decide) (by first | assumption | exact hI3 _ _ | exact hI2 _ _ | exact hI1 _ _ | exact hI0 _ _ | exact zin_and _ _ | (unfold zin; omega) | (unfold zin at *; omega)) (by first | assumption | exact hI3 _ _ | exact hI2 _ _ | exact hI1 _ _ | exact hI0 _ _ | exact zin_and _ _ | (unfold zin; omega) | (unfold zin at *; omega)) (fun h87 => ?_) (fun h87 => ?_)
                · refine wp_iconst (t := 55) rfl ?_
                  refine wp_iload (t := 56) rfl rfl ?_
                  refine wp_ishl (t := 57) rfl ?_
                  refine wp_iadd (t := 58) rfl ?_
                  refine wp_istore_n (t := 59) rfl (by decide) rfl ?_
                  refine wp_iinc (t := 60) rfl rfl (by decide) rfl ?_
                  refine wp_goto (t := 61) (tgt := 5) rfl (by decide) ?_
                  refine ih (c + 1) _ _ (by omega) (by omega) (by omega) ?_
                  have qq : I45 122 (12 + c) ≤ t ∧ t < I45 122 (12 + c) + I45 137 (9 * c + I45 122 (6 + c)) := by
                    by_cases q : I45 122 (12 + c) ≤ t ∧ t ≤ r39 - 1
                    · omega
                    · rw [if_neg q] at e45; omega
                  rw [zsum_succ _ h0, ← hs, if_pos ⟨p17, qq⟩]
                  first | rw [if_pos (by omega)] | rw [if_neg (by omega), if_pos (by omega)] | rw [if_neg (by omega), if_neg (by omega)]
                · refine wp_aload_n (t := 50) rfl rfl ?_
                  refine wp_getR (t := 51) (ji := 5) rfl fX10_13 rfl rfl (by omega) (by first | rfl | assumption) (by first | exact hW _ _ _ (by omega) rfl | assumption) ?_
                  refine wp_iload (t := 52) rfl rfl ?_
                  refine wp_iaload (t := 53) rfl (by omega) (by first | rfl | assumption) (by omega) (by omega) (by omega) ?_
                  refine wp_goto (t := 54) (tgt := 104) rfl (by decide) ?_
                  refine wp_iadd (t := 58) rfl ?_
                  refine wp_istore_n (t := 59) rfl (by decide) rfl ?_
                  refine wp_iinc (t := 60) rfl rfl (by decide) rfl ?_
                  refine wp_goto (t := 61) (tgt := 5) rfl (by decide) ?_
                  refine ih (c + 1) _ _ (by omega) (by omega) (by omega) ?_
                  have qq : I45 122 (12 + c) ≤ t ∧ t < I45 122 (12 + c) + I45 137 (9 * c + I45 122 (6 + c)) := by
                    by_cases q : I45 122 (12 + c) ≤ t ∧ t ≤ r39 - 1
                    · omega
                    · rw [if_neg q] at e45; omega
                  rw [zsum_succ _ h0, ← hs, if_pos ⟨p17, qq⟩]
                  first | rw [if_pos (by omega)] | rw [if_neg (by omega), if_pos (by omega)] | rw [if_neg (by omega), if_neg (by omega)]
              · refine wp_aload_n (t := 40) rfl rfl ?_
                refine wp_getR (t := 41) (ji := 10) rfl fX10_28 rfl rfl (by omega) (by first | rfl | assumption) (by first | exact hW _ _ _ (by omega) rfl | assumption) ?_
                refine wp_bipush (t := 42) rfl (by decide) ?_
                refine wp_iload (t := 43) rfl rfl ?_
                refine wp_iadd (t := 44) rfl ?_
                refine wp_iaload (t := 45) rfl (by omega) (by first | rfl | assumption) (by omega) (by omega) (by omega) ?_
                refine wp_goto (t := 46) (tgt := 104) rfl (by decide) ?_
                refine wp_iadd (t := 58) rfl ?_
                refine wp_istore_n (t := 59) rfl (by decide) rfl ?_
                refine wp_iinc (t := 60) rfl rfl (by decide) rfl ?_
                refine wp_goto (t := 61) (tgt := 5) rfl (by decide) ?_
                refine ih (c + 1) _ _ (by omega) (by omega) (by omega) ?_
                have qq : I45 122 (12 + c) ≤ t ∧ t < I45 122 (12 + c) + I45 137 (9 * c + I45 122 (6 + c)) := by
                  by_cases q : I45 122 (12 + c) ≤ t ∧ t ≤ r39 - 1
                  · omega
                  · rw [if_neg q] at e45; omega
                rw [zsum_succ _ h0, ← hs, if_pos ⟨p17, qq⟩]
                first | rw [if_pos (by omega)] | rw [if_neg (by omega), if_pos (by omega)] | rw [if_neg (by omega), if_neg (by omega)]
            · exact absurd h61 (by omega)
  refine wp_ls (ls' := [some (zR 115), some (zI t), some (zI what), none, none, none]) rfl ?_
  refine wp_iconst (t := 0) rfl ?_
  refine wp_istore_n (t := 1) rfl (by decide) rfl ?_
  refine wp_iconst (t := 2) rfl ?_
  refine wp_istore (t := 3) rfl (by decide) rfl ?_
  exact key _ 0 0 none (by omega) (by omega) rfl rfl
set_option maxHeartbeats 4000000 in
set_option maxRecDepth 100000 in
theorem c_X10_lengthOf {G : zG} {d n : Nat} {I : zMem} {R : zRef} {wo : Int} (hW : zWir n R) (hn : 143 ≤ n) (hch : mCh I) (hpl : mPl I) (htk : mTk I) : MT G mX10_lengthOf (d + 1) 0 0 [zR 115] n I R (zP1 (fun r I' R' => r = sLen (mS I wo) (I 115 2).toNat ∧ (0 ≤ r ∧ r ≤ 1010000) ∧ I' = I ∧ R' = R)) := by
  refine MT.of (by decide +kernel) tX10_lengthOf_ok (Nat.le_of_ble_eq_true rfl) (fun hI0 => ?_)
  have hco := hch.1
  have hli := hch.2.1
  obtain ⟨f1, f2, f3, f4, f5, f6⟩ := mS_facts (wo := wo) hch hpl htk
  have key : ∀ (m : Nat) (c s : Int), 0 ≤ c → c ≤ I 115 2 → (I 115 2 - c).toNat = m → s = sLen (mS I wo) c.toNat → 0 ≤ s ∧ s ≤ 1010000 → WP G mX10_lengthOf (d + 1) 0 0 0 0 4 [some (zR 115), some (zI s), some (zI c)] [] n I R (zP1 (fun r I' R' => r = sLen (mS I wo) (I 115 2).toNat ∧ (0 ≤ r ∧ r ≤ 1010000) ∧ I' = I ∧ R' = R)) := by
    intro m
    induction m with
    | zero =>
      intro c s h0 h1 hm hs hb
      refine wp_iload_n (t := 4) rfl rfl ?_
      refine wp_aload_n (t := 5) rfl rfl ?_
      refine wp_getI (t := 6) (ji := 2) rfl fX10_115 rfl rfl (by omega) (by first | rfl | assumption) ?_
      refine wp_icmp_ge (t := 7) (tgt := 45) rfl (by decide) (by first | assumption | exact hI0 _ _ | exact zin_and _ _ | (unfold zin; omega) | (unfold zin at *; omega)) (by first | assumption | exact hI0 _ _ | exact zin_and _ _ | (unfold zin; omega) | (unfold zin at *; omega)) (fun h9 => ?_) (fun h9 => ?_)
      · refine wp_iload_n (t := 25) rfl rfl ?_
        refine wp_ireturn (t := 26) rfl rfl ?_
        exact ⟨_, rfl, by rw [hs, show c = I 115 2 by omega], hb, rfl, rfl⟩
      · exact absurd h9 (by omega)
    | succ m ih =>
      intro c s h0 h1 hm hs hb
      have hpc := hpl c h0 (by omega)
      have f6c := f6 c h0 (by show c < I 115 2; omega)
      refine wp_iload_n (t := 4) rfl rfl ?_
      refine wp_aload_n (t := 5) rfl rfl ?_
      refine wp_getI (t := 6) (ji := 2) rfl fX10_115 rfl rfl (by omega) (by first | rfl | assumption) ?_
      refine wp_icmp_ge (t := 7) (tgt := 45) rfl (by decide) (by first | assumption | exact hI0 _ _ | exact zin_and _ _ | (unfold zin; omega) | (unfold zin at *; omega)) (by first | assumption | exact hI0 _ _ | exact zin_and _ _ | (unfold zin; omega) | (unfold zin at *; omega)) (fun h9 => ?_) (fun h9 => ?_)
      · exact absurd h9 (by omega)
      · refine wp_aload_n (t := 8) rfl rfl ?_
        refine wp_iload_n (t := 9) rfl rfl ?_
        refine wp_vi (ci := 10) (c_X10_isPut (d := d + 0) hW hn ⟨h0, by omega⟩) (t := 10) rfl kX10_215 rfl rfl (by omega) (by first | rfl | assumption) ⟨_, _, rfl⟩ (Nat.le_of_ble_eq_true rfl) ⟨Nat.le_refl _, Nat.le_refl _⟩ (fun r14 I14 R14 c14 => ?_)
        refine wp_canon (fun hI1 => ?_)
        obtain ⟨e14, rfl, rfl⟩ := c14
        refine wp_if_eq (t := 11) (tgt := 37) rfl (by decide) (by rw [e14]; unfold zin; split <;> omega) (fun h17 => ?_) (fun h17 => ?_)
        · refine wp_iload_n (t := 21) rfl rfl ?_
          refine wp_istore_n (t := 22) rfl (by decide) rfl ?_
          refine wp_iinc (t := 23) rfl rfl (by decide) rfl ?_
          refine wp_goto (t := 24) (tgt := 4) rfl (by decide) ?_
          refine ih (c + 1) _ (by omega) (by omega) (by omega) ?_ hb
          rw [sLen_succ _ h0, if_neg (show ¬ 0 < sW (mS I14 wo) c from fun q => by rw [if_pos (show 0 < I14 122 (6 + c) from q)] at e14; omega), ← hs]
        · have p17 : 0 < I14 122 (6 + c) := by by_cases q : 0 < I14 122 (6 + c); exact q; rw [if_neg q] at e14; omega
          have f7 : 0 ≤ I14 122 (12 + c) + I14 137 (9 * c + I14 122 (6 + c)) ∧ I14 122 (12 + c) + I14 137 (9 * c + I14 122 (6 + c)) ≤ 1010000 := f6c p17
          refine wp_aload_n (t := 12) rfl rfl ?_
          refine wp_iload_n (t := 13) rfl rfl ?_
          refine wp_vi (ci := 10) (c_X10_endOf (d := d + 0) hW hn ⟨h0, by omega⟩ ⟨by omega, by omega⟩) (t := 14) rfl kX10_228 rfl rfl (by omega) (by first | rfl | assumption) ⟨_, _, rfl⟩ (Nat.le_of_ble_eq_true rfl) ⟨Nat.le_refl _, Nat.le_refl _⟩ (fun r22 I22 R22 c22 => ?_)
          refine wp_canon (fun hI2 => ?_)
          obtain ⟨e22, rfl, rfl⟩ := c22
          refine wp_iload_n (t := 15) rfl rfl ?_
          refine wp_icmp_le (t := 16) (tgt := 37) rfl (by decide) (by rw [e22]; unfold zin; omega) (by first | assumption | exact hI2 _ _ | exact hI1 _ _ | exact hI0 _ _ | exact zin_and _ _ | (unfold zin; omega) | (unfold zin at *; omega)) (fun h26 => ?_) (fun h26 => ?_)
          · refine wp_iload_n (t := 21) rfl rfl ?_
            refine wp_istore_n (t := 22) rfl (by decide) rfl ?_
            refine wp_iinc (t := 23) rfl rfl (by decide) rfl ?_
            refine wp_goto (t := 24) (tgt := 4) rfl (by decide) ?_
            refine ih (c + 1) _ (by omega) (by omega) (by omega) ?_ hb
            rw [sLen_succ _ h0, if_pos (show 0 < sW (mS I22 wo) c from p17), ← hs, show sU (mS I22 wo) c = r22 from e22.symm]
            omega
          · refine wp_aload_n (t := 17) rfl rfl ?_
            refine wp_iload_n (t := 18) rfl rfl ?_
            refine wp_vi (ci := 10) (c_X10_endOf (d := d + 0) hW hn ⟨h0, by omega⟩ ⟨by omega, by omega⟩) (t := 19) rfl kX10_228 rfl rfl (by omega) (by first | rfl | assumption) ⟨_, _, rfl⟩ (Nat.le_of_ble_eq_true rfl) ⟨Nat.le_refl _, Nat.le_refl _⟩ (fun r31 I31 R31 c31 => ?_)
            refine wp_canon (fun hI3 => ?_)
            obtain ⟨e31, rfl, rfl⟩ := c31
            refine wp_goto (t := 20) (tgt := 38) rfl (by decide) ?_
            refine wp_istore_n (t := 22) rfl (by decide) rfl ?_
            refine wp_iinc (t := 23) rfl rfl (by decide) rfl ?_
            refine wp_goto (t := 24) (tgt := 4) rfl (by decide) ?_
            refine ih (c + 1) _ (by omega) (by omega) (by omega) ?_ (by omega)
            rw [sLen_succ _ h0, if_pos (show 0 < sW (mS I31 wo) c from p17), ← hs, show sU (mS I31 wo) c = r31 from e31.symm]
            omega
  refine wp_ls (ls' := [some (zR 115), none, none]) rfl ?_
  refine wp_iconst (t := 0) rfl ?_
  refine wp_istore_n (t := 1) rfl (by decide) rfl ?_
  refine wp_iconst (t := 2) rfl ?_
  refine wp_istore_n (t := 3) rfl (by decide) rfl ?_
  exact key _ 0 0 (by omega) (by omega) rfl rfl (by omega)
