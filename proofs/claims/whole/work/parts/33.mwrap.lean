/-! the reference: wrapping, what a core takes, the table of it -/
theorem zSrt_ex (len : Int → Int) : ∀ n : Nat, ∃ o : Int → Int, zSrt len o n := by
  intro n
  induction n with
  | zero => exact ⟨fun _ => 0, fun t h0 h1 => absurd h1 (by omega), fun s t h0 h1 h2 => absurd h2 (by omega), fun k h0 h1 => absurd h1 (by omega)⟩
  | succ n ih =>
    obtain ⟨o, h⟩ := ih
    have hq : ∀ m : Nat, m ≤ n → ∃ q : Int, 0 ≤ q ∧ q ≤ n ∧ (∀ s : Int, q ≤ s → s < n → len (o s) < len n) ∧ (q = n - m ∨ (q = 0 ∨ len n ≤ len (o (q - 1)))) := by
      intro m
      induction m with
      | zero => exact fun _ => ⟨n, by omega, by omega, fun s h0 h1 => absurd h1 (by omega), Or.inl (by omega)⟩
      | succ m ihm =>
        intro hm
        obtain ⟨q, q0, q1, q2, q3⟩ := ihm (by omega)
        rcases q3 with q3 | q3
        · by_cases g : len (o (q - 1)) < len n
          · exact ⟨q - 1, by omega, by omega, fun s h0 h1 => by
              by_cases e : s = q - 1
              · rw [e]
                exact g
              · exact q2 s (by omega) h1, Or.inl (by omega)⟩
          · exact ⟨q, q0, q1, q2, Or.inr (Or.inr (by omega))⟩
        · exact ⟨q, q0, q1, q2, Or.inr q3⟩
    obtain ⟨q, q0, q1, q2, q3⟩ := hq n (Nat.le_refl _)
    have hn : ((n + 1 : Nat) : Int) = (n : Int) + 1 := by omega
    rw [hn]
    refine ⟨fun s => if s < q then o s else if s = q then n else o (s - 1), zSrt_ins (o := o) (q := q) (by omega) h q0 q1 q2 ?_ (fun s s0 s1 => if_pos s1) ?_ (fun s s0 s1 => ?_)⟩
    · rcases q3 with q3 | q3
      · exact Or.inl (by omega)
      · exact q3
    · show (if q < q then o q else if q = q then (n : Int) else o (q - 1)) = n
      rw [if_neg (by omega), if_pos rfl]
    · show (if s < q then o s else if s = q then (n : Int) else o (s - 1)) = o (s - 1)
      rw [if_neg (by omega), if_neg (by omega)]
/-- what laying gives in bounds -/
theorem zlp_b {len : Int → Int} {n w : Nat} (hw : 0 < w) (hl : ∀ i : Int, 0 ≤ i → i < n → 1 ≤ len i ∧ len i ≤ 9) : ∀ t : Nat, t ≤ n → (∀ x : Int, 0 ≤ (zlp len n w t).1 x ∧ (zlp len n w t).1 x ≤ 9 * t) ∧ (0 ≤ (zlp len n w t).2.2 ∧ (zlp len n w t).2.2 ≤ 9 * t) ∧ (0 < t → 1 ≤ (zlp len n w t).2.2) ∧ (t < n → 0 ≤ zbest len (zlp len n w t).2.1 n ∧ zbest len (zlp len n w t).2.1 n < n) ∧ (∀ k : Int, (zlp len n w t).2.1 k < w) := by
  intro t ht
  obtain ⟨o, ho⟩ := zSrt_ex len n
  have e := zlq_eq hw ho t ht
  obtain ⟨b1, b2, b3⟩ := zlq_b (len := len) (o := o) (n := n) hw hl ho.1 t (by omega)
  rw [e]
  refine ⟨b1, b2, b3, fun h => ?_, ?_⟩
  · rcases zbest_spec len (zlq len o w t).2.1 n with ⟨-, h2⟩ | ⟨h1, h2, -⟩
    · have ot := ho.1 t (by omega) (by omega)
      obtain ⟨s, s0, s1, s2⟩ := (zlq_laid (len := len) (o := o) hw t (o t)).mp (h2 (o t) ot.1 ot.2)
      have := ho.2.1 s t s0 s1 (by omega)
      rw [s2] at this
      omega
    · exact ⟨h1, h2⟩
  · clear e ht b1 b2 b3
    induction t with
    | zero =>
      intro k
      show (-4 : Int) < w
      omega
    | succ t ih =>
      intro k
      have g := (zamin_b (zlq len o w t).1 w hw).2
      have g2 := ih k
      show (if k = o t then zamin (zlq len o w t).1 w else (zlq len o w t).2.1 k) < w
      split <;> omega
theorem zbest_congr {len la la' : Int → Int} : ∀ {n : Nat}, (∀ i : Int, 0 ≤ i → i < n → la i = la' i) → zbest len la n = zbest len la' n := by
  intro n
  induction n with
  | zero => intro _; rfl
  | succ n ih =>
    intro h
    have e := ih (fun i h0 h1 => h i h0 (by omega))
    have e2 := h n (by omega) (by omega)
    show (if la n < 0 ∧ (zbest len la n < 0 ∨ len (zbest len la n) < len n) then (n : Int) else zbest len la n) = (if la' n < 0 ∧ (zbest len la' n < 0 ∨ len (zbest len la' n) < len n) then (n : Int) else zbest len la' n)
    rw [e, e2]
theorem zbest_rng (len la : Int → Int) (n : Nat) : -4 ≤ zbest len la n ∧ zbest len la n < n ∧ (zbest len la n < 0 → zbest len la n = -4) := by
  rcases zbest_spec len la n with ⟨h1, -⟩ | ⟨h1, h2, -⟩ <;> omega
/-- the chains of a core in the reference -/
def mLn (I : zMem) (c : Int) : Int → Int := fun i => I 119 (6 * c + i)
def mLp (I : zMem) (c w : Int) (t : Nat) : zLP := zlp (mLn I c) (I 118 c).toNat w.toNat t
def mWc (I : zMem) (c : Int) : Prop := (1 ≤ I 118 c ∧ I 118 c ≤ 6) ∧ ∀ i : Int, 0 ≤ i → i < I 118 c → 1 ≤ I 119 (6 * c + i) ∧ I 119 (6 * c + i) ≤ 9
def mSw (I J : zMem) : Prop := ∀ b : Nat, b ≠ 135 → b ≠ 136 → J b = I b
set_option maxHeartbeats 4000000 in
set_option maxRecDepth 100000 in
theorem c_X10_wrapOf {G : zG} {d n : Nat} {I : zMem} {R : zRef} {c w : Int} (hW : zWir n R) (hn : 143 ≤ n) (hc : 0 ≤ c ∧ c < 6) (hw : 1 ≤ w ∧ w ≤ 8) (hwc : mWc I c) : MT G mX10_wrapOf d 0 0 [zR 115, zI c, zI w] n I R (zP1 (fun r I' R' => (r = (mLp I c w (I 118 c).toNat).2.2 ∧ (1 ≤ r ∧ r ≤ 54) ∧ mSw I I' ∧ ∀ i : Int, 0 ≤ i → i < 6 → I' 136 i = (mLp I c w (I 118 c).toNat).2.1 i) ∧ R' = R)) := by
  refine MT.of (by decide +kernel) tX10_wrapOf_ok (Nat.le_of_ble_eq_true rfl) (fun hI0 => ?_)
  obtain ⟨hcm, hle⟩ := hwc
  have hw0 : 0 < w.toNat := by omega
  have hlb : ∀ i : Int, 0 ≤ i → i < ((I 118 c).toNat : Int) → 1 ≤ mLn I c i ∧ mLn I c i ≤ 9 := fun i i0 i1 => hle i i0 (by omega)
  have hbd := zlp_b (len := mLn I c) (n := (I 118 c).toNat) (w := w.toNat) hw0 hlb
  -- the laying: turn chains are laid
  have key : ∀ (m : Nat) (t : Int) (J : zMem) (x5 x6 x7 : Option zV), 0 ≤ t → t ≤ I 118 c → (I 118 c - t).toNat = m → mSw I J → (∀ x : Int, 0 ≤ x → x < w → J 135 x = (mLp I c w t.toNat).1 x) → (∀ i : Int, 0 ≤ i → i < 6 → J 136 i = (mLp I c w t.toNat).2.1 i) →
      WP G mX10_wrapOf d 0 0 0 0 47 [some (zR 115), some (zI c), some (zI w), some (zI (mLp I c w t.toNat).2.2), some (zI t), x5, x6, x7] [] n J R (zP1 (fun r I' R' => (r = (mLp I c w (I 118 c).toNat).2.2 ∧ (1 ≤ r ∧ r ≤ 54) ∧ mSw I I' ∧ ∀ i : Int, 0 ≤ i → i < 6 → I' 136 i = (mLp I c w (I 118 c).toNat).2.1 i) ∧ R' = R)) := by
    intro m
    induction m with
    | zero =>
      intro t J x5 x6 x7 h0 h1 hm sm hl hla
      have et : t = I 118 c := by omega
      subst et
      have e118 : J 118 = I 118 := sm 118 (by decide) (by decide)
      obtain ⟨b1, b2, b3, -⟩ := hbd (I 118 c).toNat (Nat.le_refl _)
      have b2 : 0 ≤ (mLp I c w (I 118 c).toNat).2.2 ∧ (mLp I c w (I 118 c).toNat).2.2 ≤ 9 * ((I 118 c).toNat : Int) := b2
      have b3 : 1 ≤ (mLp I c w (I 118 c).toNat).2.2 := b3 (by omega)
      refine wp_canon (fun hI0 => ?_)
      refine wp_iload (t := 28) rfl rfl ?_
      refine wp_aload_n (t := 29) rfl rfl ?_
      refine wp_getR (t := 30) (ji := 6) rfl fX10_16 rfl rfl (by omega) (by first | rfl | assumption) (by first | exact hW _ _ _ (by omega) rfl | assumption) ?_
      refine wp_iload_n (t := 31) rfl rfl ?_
      refine wp_iaload (t := 32) rfl (by omega) (by first | rfl | assumption) (by omega) (by omega) (by omega) ?_
      rw [e118]
      refine wp_icmp_ge (t := 33) (tgt := 237) rfl (by decide) (by first | assumption | exact hI0 _ _ | exact zin_and _ _ | (unfold zin; omega) | (unfold zin at *; omega)) (by first | assumption | exact hI0 _ _ | exact zin_and _ _ | (unfold zin; omega) | (unfold zin at *; omega)) (fun h55 => ?_) (fun h55 => ?_)
      · refine wp_iload_n (t := 131) rfl rfl ?_
        refine wp_ireturn (t := 132) rfl rfl ?_
        exact ⟨_, rfl, ⟨rfl, ⟨b3, by omega⟩, sm, hla⟩, rfl⟩
      · exact absurd h55 (by omega)
    | succ m ih =>
      intro t J x5 x6 x7 h0 h1 hm sm hl hla
      have e118 : J 118 = I 118 := sm 118 (by decide) (by decide)
      have e119 : J 119 = I 119 := sm 119 (by decide) (by decide)
      obtain ⟨b1, b2, b3, b4, b5⟩ := hbd t.toNat (by omega)
      have hst := zlp_succ (mLn I c) (I 118 c).toNat w.toNat h0
      have hst : mLp I c w (t + 1).toNat = zlay1 (mLn I c) w.toNat (mLp I c w t.toNat) (zbest (mLn I c) (mLp I c w t.toNat).2.1 (I 118 c).toNat) := hst
      have b1 : ∀ x : Int, 0 ≤ (mLp I c w t.toNat).1 x ∧ (mLp I c w t.toNat).1 x ≤ 9 * (t.toNat : Int) := b1
      have b2 : 0 ≤ (mLp I c w t.toNat).2.2 ∧ (mLp I c w t.toNat).2.2 ≤ 9 * (t.toNat : Int) := b2
      have b4 : 0 ≤ zbest (mLn I c) (mLp I c w t.toNat).2.1 (I 118 c).toNat ∧ zbest (mLn I c) (mLp I c w t.toNat).2.1 (I 118 c).toNat < ((I 118 c).toNat : Int) := b4 (by omega)
      generalize mLp I c w t.toNat = z at *
      have hli := zamin_b z.1 w.toNat hw0
      have hlN := hle _ b4.1 (by omega)
      have hzl := b1 (zamin z.1 w.toNat)
      -- one chain is laid on its line
      have lay : ∀ (x7 : Option zV), WP G mX10_wrapOf d 0 0 0 0 177 [some (zR 115), some (zI c), some (zI w), some (zI z.2.2), some (zI t), some (zI (zbest (mLn I c) z.2.1 (I 118 c).toNat)), some (zI (zamin z.1 w.toNat)), x7] [] n J R (zP1 (fun r I' R' => (r = (mLp I c w (I 118 c).toNat).2.2 ∧ (1 ≤ r ∧ r ≤ 54) ∧ mSw I I' ∧ ∀ i : Int, 0 ≤ i → i < 6 → I' 136 i = (mLp I c w (I 118 c).toNat).2.1 i) ∧ R' = R)) := by
        intro x7
        generalize hbe : zbest (mLn I c) z.2.1 (I 118 c).toNat = be at *
        generalize hal : zamin z.1 w.toNat = al at *
        have hal2 := hl al hli.1 (by omega)
        have e135 : zu J 136 be al 135 = J 135 := zu_ne (by decide)
        have e119b : zu J 136 be al 119 = I 119 := (zu_ne (by decide)).trans e119
        have hz2 : (mLp I c w (t + 1).toNat).2.2 = max z.2.2 (z.1 al + mLn I c be) := by rw [hst]; show max z.2.2 (z.1 (zamin z.1 w.toNat) + mLn I c be) = _; rw [hal]
        have hz1 : ∀ x, (mLp I c w (t + 1).toNat).1 x = if x = al then z.1 al + mLn I c be else z.1 x := fun x => by rw [hst]; show (if x = zamin z.1 w.toNat then z.1 (zamin z.1 w.toNat) + mLn I c be else z.1 x) = _; rw [hal]
        have hz3 : ∀ x, (mLp I c w (t + 1).toNat).2.1 x = if x = be then al else z.2.1 x := fun x => by rw [hst]; show (if x = be then zamin z.1 w.toNat else z.2.1 x) = _; rw [hal]
        have hml : mLn I c be = I 119 (6 * c + be) := rfl
        refine wp_canon (fun hI0 => ?_)
        refine wp_aload_n (t := 96) rfl rfl ?_
        refine wp_getR (t := 97) (ji := 35) rfl fX10_70 rfl rfl (by omega) (by first | rfl | assumption) (by first | exact hW _ _ _ (by omega) rfl | assumption) ?_
        refine wp_iload (t := 98) rfl rfl ?_
        refine wp_iload (t := 99) rfl rfl ?_
        refine wp_iastore (t := 100) rfl (by omega) (by first | rfl | assumption) (by omega) (by omega) (by omega) (by first | assumption | exact hI0 _ _ | exact zin_and _ _ | (unfold zin; omega) | (unfold zin at *; omega)) ?_
        refine wp_canon (fun hI1 => ?_)
        refine wp_aload_n (t := 101) rfl rfl ?_
        refine wp_getR (t := 102) (ji := 34) rfl fX10_67 rfl rfl (by omega) (by first | rfl | assumption) (by first | exact hW _ _ _ (by omega) rfl | assumption) ?_
        refine wp_iload (t := 103) rfl rfl ?_
        refine wp_dup2 (t := 104) rfl rfl rfl ?_
        refine wp_iaload (t := 105) rfl (by omega) (by first | rfl | assumption) (by omega) (by omega) (by omega) ?_
        rw [e135, hal2]
        refine wp_aload_n (t := 106) rfl rfl ?_
        refine wp_getR (t := 107) (ji := 7) rfl fX10_19 rfl rfl (by omega) (by first | rfl | assumption) (by first | exact hW _ _ _ (by omega) rfl | assumption) ?_
        refine wp_bipush (t := 108) rfl (by decide) ?_
        refine wp_iload_n (t := 109) rfl rfl ?_
        refine wp_imul (t := 110) rfl ?_
        refine wp_iload (t := 111) rfl rfl ?_
        refine wp_iadd (t := 112) rfl ?_
        refine wp_iaload (t := 113) rfl (by omega) (by first | rfl | assumption) (by omega) (by omega) (by omega) ?_
        rw [e119b]
        refine wp_iadd (t := 114) rfl ?_
        refine wp_iastore (t := 115) rfl (by omega) (by first | rfl | assumption) (by omega) (by omega) (by omega) (by first | assumption | exact hI1 _ _ | exact hI0 _ _ | exact zin_and _ _ | (unfold zin; omega) | (unfold zin at *; omega)) ?_
        refine wp_canon (fun hI2 => ?_)
        refine wp_aload_n (t := 116) rfl rfl ?_
        refine wp_getR (t := 117) (ji := 34) rfl fX10_67 rfl rfl (by omega) (by first | rfl | assumption) (by first | exact hW _ _ _ (by omega) rfl | assumption) ?_
        refine wp_iload (t := 118) rfl rfl ?_
        refine wp_iaload (t := 119) rfl (by omega) (by first | rfl | assumption) (by omega) (by omega) (by omega) ?_
        rw [zu_eq]
        refine wp_iload_n (t := 120) rfl rfl ?_
        refine wp_icmp_le (t := 121) (tgt := 229) rfl (by decide) (by first | assumption | exact hI2 _ _ | exact hI1 _ _ | exact hI0 _ _ | exact zin_and _ _ | (unfold zin; omega) | (unfold zin at *; omega)) (by first | assumption | exact hI2 _ _ | exact hI1 _ _ | exact hI0 _ _ | exact zin_and _ _ | (unfold zin; omega) | (unfold zin at *; omega)) (fun h216 => ?_) (fun h216 => ?_)
        · refine wp_iload_n (t := 127) rfl rfl ?_
          refine wp_istore_n (t := 128) rfl (by decide) rfl ?_
          refine wp_iinc (t := 129) rfl rfl (by decide) rfl ?_
          refine wp_goto (t := 130) (tgt := 47) rfl (by decide) ?_
          first
            | (rw [show z.1 al + I 119 (6 * c + be) = (mLp I c w (t + 1).toNat).2.2 by omega])
            | (rw [show z.2.2 = (mLp I c w (t + 1).toNat).2.2 by omega])
          refine ih (t + 1) _ _ _ _ (by omega) (by omega) (by omega) (fun b g1 g2 => ?_) (fun x x0 x1 => ?_) (fun i i0 i1 => ?_)
          · rw [zu_ne g1, zu_ne g2]
            exact sm b g1 g2
          · rw [hz1 x]
            by_cases e : x = al
            · rw [e, if_pos rfl, zu_eq]
              first | rfl | omega
            · rw [if_neg e, zu_ni e, e135]
              exact hl x x0 x1
          · rw [hz3 i, zu_ne (by decide)]
            by_cases e : i = be
            · rw [e, if_pos rfl, zu_eq]
            · rw [if_neg e, zu_ni e]
              exact hla i i0 i1
        · refine wp_aload_n (t := 122) rfl rfl ?_
          refine wp_getR (t := 123) (ji := 34) rfl fX10_67 rfl rfl (by omega) (by first | rfl | assumption) (by first | exact hW _ _ _ (by omega) rfl | assumption) ?_
          refine wp_iload (t := 124) rfl rfl ?_
          refine wp_iaload (t := 125) rfl (by omega) (by first | rfl | assumption) (by omega) (by omega) (by omega) ?_
          rw [zu_eq]
          refine wp_goto (t := 126) (tgt := 230) rfl (by decide) ?_
          refine wp_istore_n (t := 128) rfl (by decide) rfl ?_
          refine wp_iinc (t := 129) rfl rfl (by decide) rfl ?_
          refine wp_goto (t := 130) (tgt := 47) rfl (by decide) ?_
          first
            | (rw [show z.1 al + I 119 (6 * c + be) = (mLp I c w (t + 1).toNat).2.2 by omega])
            | (rw [show z.2.2 = (mLp I c w (t + 1).toNat).2.2 by omega])
          refine ih (t + 1) _ _ _ _ (by omega) (by omega) (by omega) (fun b g1 g2 => ?_) (fun x x0 x1 => ?_) (fun i i0 i1 => ?_)
          · rw [zu_ne g1, zu_ne g2]
            exact sm b g1 g2
          · rw [hz1 x]
            by_cases e : x = al
            · rw [e, if_pos rfl, zu_eq]
              first | rfl | omega
            · rw [if_neg e, zu_ni e, e135]
              exact hl x x0 x1
          · rw [hz3 i, zu_ne (by decide)]
            by_cases e : i = be
            · rw [e, if_pos rfl, zu_eq]
            · rw [if_neg e, zu_ni e]
              exact hla i i0 i1
      -- the line with the least
      have keyL : ∀ (m : Nat) (l : Int), 0 ≤ l → l ≤ w → (w - l).toNat = m → WP G mX10_wrapOf d 0 0 0 0 139 [some (zR 115), some (zI c), some (zI w), some (zI z.2.2), some (zI t), some (zI (zbest (mLn I c) z.2.1 (I 118 c).toNat)), some (zI (zamin z.1 l.toNat)), some (zI l)] [] n J R (zP1 (fun r I' R' => (r = (mLp I c w (I 118 c).toNat).2.2 ∧ (1 ≤ r ∧ r ≤ 54) ∧ mSw I I' ∧ ∀ i : Int, 0 ≤ i → i < 6 → I' 136 i = (mLp I c w (I 118 c).toNat).2.1 i) ∧ R' = R)) := by
        intro m
        induction m with
        | zero =>
          intro l l0 l1 lm
          have el : l = w := by omega
          subst el
          refine wp_iload (t := 78) rfl rfl ?_
          refine wp_iload_n (t := 79) rfl rfl ?_
          refine wp_icmp_ge (t := 80) (tgt := 177) rfl (by decide) (by first | assumption | exact hI0 _ _ | exact zin_and _ _ | (unfold zin; omega) | (unfold zin at *; omega)) (by first | assumption | exact hI0 _ _ | exact zin_and _ _ | (unfold zin; omega) | (unfold zin at *; omega)) (fun h142 => ?_) (fun h142 => ?_)
          · exact lay _
          · exact absurd h142 (by omega)
        | succ m ihl =>
          intro l l0 l1 lm
          have hzs := zamin_succ z.1 l0
          have hzr : 0 ≤ zamin z.1 l.toNat ∧ zamin z.1 l.toNat < w := by
            by_cases e : l = 0
            · rw [e]
              exact ⟨Int.le_refl _, by show (0 : Int) < w; omega⟩
            · have := zamin_b z.1 l.toNat (by omega)
              omega
          have a1 := hl l l0 (by omega)
          have a2 := hl _ hzr.1 hzr.2
          refine wp_canon (fun hI0 => ?_)
          refine wp_iload (t := 78) rfl rfl ?_
          refine wp_iload_n (t := 79) rfl rfl ?_
          refine wp_icmp_ge (t := 80) (tgt := 177) rfl (by decide) (by first | assumption | exact hI0 _ _ | exact zin_and _ _ | (unfold zin; omega) | (unfold zin at *; omega)) (by first | assumption | exact hI0 _ _ | exact zin_and _ _ | (unfold zin; omega) | (unfold zin at *; omega)) (fun h142 => ?_) (fun h142 => ?_)
          · exact absurd h142 (by omega)
          · refine wp_aload_n (t := 81) rfl rfl ?_
            refine wp_getR (t := 82) (ji := 34) rfl fX10_67 rfl rfl (by omega) (by first | rfl | assumption) (by first | exact hW _ _ _ (by omega) rfl | assumption) ?_
            refine wp_iload (t := 83) rfl rfl ?_
            refine wp_iaload (t := 84) rfl (by omega) (by first | rfl | assumption) (by omega) (by omega) (by omega) ?_
            refine wp_aload_n (t := 85) rfl rfl ?_
            refine wp_getR (t := 86) (ji := 34) rfl fX10_67 rfl rfl (by omega) (by first | rfl | assumption) (by first | exact hW _ _ _ (by omega) rfl | assumption) ?_
            refine wp_iload (t := 87) rfl rfl ?_
            refine wp_iaload (t := 88) rfl (by omega) (by first | rfl | assumption) (by omega) (by omega) (by omega) ?_
            rw [a1, a2] at *
            refine wp_icmp_ge (t := 89) (tgt := 167) rfl (by decide) (by have := b1 l; unfold zin; omega) (by have := b1 (zamin z.1 l.toNat); unfold zin; omega) (fun h159 => ?_) (fun h159 => ?_)
            · refine wp_iload (t := 92) rfl rfl ?_
              refine wp_istore (t := 93) rfl (by decide) rfl ?_
              refine wp_iinc (t := 94) rfl rfl (by decide) rfl ?_
              refine wp_goto (t := 95) (tgt := 139) rfl (by decide) ?_
              have hh := ihl (l + 1) (by omega) (by omega) (by omega)
              rw [hzs, if_neg (by omega)] at hh
              exact hh
            · refine wp_iload (t := 90) rfl rfl ?_
              refine wp_goto (t := 91) (tgt := 169) rfl (by decide) ?_
              refine wp_istore (t := 93) rfl (by decide) rfl ?_
              refine wp_iinc (t := 94) rfl rfl (by decide) rfl ?_
              refine wp_goto (t := 95) (tgt := 139) rfl (by decide) ?_
              have hh := ihl (l + 1) (by omega) (by omega) (by omega)
              rw [hzs, if_pos (by omega)] at hh
              exact hh
      -- the next chain
      have keyK : ∀ (m : Nat) (k : Int), 0 ≤ k → k ≤ I 118 c → (I 118 c - k).toNat = m → ∀ (x7 : Option zV), WP G mX10_wrapOf d 0 0 0 0 65 [some (zR 115), some (zI c), some (zI w), some (zI z.2.2), some (zI t), some (zI (zbest (mLn I c) z.2.1 k.toNat)), some (zI k), x7] [] n J R (zP1 (fun r I' R' => (r = (mLp I c w (I 118 c).toNat).2.2 ∧ (1 ≤ r ∧ r ≤ 54) ∧ mSw I I' ∧ ∀ i : Int, 0 ≤ i → i < 6 → I' 136 i = (mLp I c w (I 118 c).toNat).2.1 i) ∧ R' = R)) := by
        intro m
        induction m with
        | zero =>
          intro k k0 k1 km x7
          have ek : k = I 118 c := by omega
          subst ek
          refine wp_canon (fun hI0 => ?_)
          refine wp_iload (t := 38) rfl rfl ?_
          refine wp_aload_n (t := 39) rfl rfl ?_
          refine wp_getR (t := 40) (ji := 6) rfl fX10_16 rfl rfl (by omega) (by first | rfl | assumption) (by first | exact hW _ _ _ (by omega) rfl | assumption) ?_
          refine wp_iload_n (t := 41) rfl rfl ?_
          refine wp_iaload (t := 42) rfl (by omega) (by first | rfl | assumption) (by omega) (by omega) (by omega) ?_
          rw [e118]
          refine wp_icmp_ge (t := 43) (tgt := 133) rfl (by decide) (by first | assumption | exact hI0 _ _ | exact zin_and _ _ | (unfold zin; omega) | (unfold zin at *; omega)) (by first | assumption | exact hI0 _ _ | exact zin_and _ _ | (unfold zin; omega) | (unfold zin at *; omega)) (fun h73 => ?_) (fun h73 => ?_)
          · refine wp_iconst (t := 74) rfl ?_
            refine wp_istore (t := 75) rfl (by decide) rfl ?_
            refine wp_iconst (t := 76) rfl ?_
            refine wp_istore (t := 77) rfl (by decide) rfl ?_
            exact keyL _ 0 (by omega) (by omega) rfl
          · exact absurd h73 (by omega)
        | succ m ihk =>
          intro k k0 k1 km x7
          have hzs := zbest_succ (mLn I c) z.2.1 k0
          have hzr := zbest_rng (mLn I c) z.2.1 k.toNat
          have a1 := hla k k0 (by omega)
          have a3 : mLn I c k = I 119 (6 * c + k) := rfl
          have a4 : mLn I c (zbest (mLn I c) z.2.1 k.toNat) = I 119 (6 * c + zbest (mLn I c) z.2.1 k.toNat) := rfl
          rw [a3, a4] at hzs
          refine wp_canon (fun hI0 => ?_)
          refine wp_iload (t := 38) rfl rfl ?_
          refine wp_aload_n (t := 39) rfl rfl ?_
          refine wp_getR (t := 40) (ji := 6) rfl fX10_16 rfl rfl (by omega) (by first | rfl | assumption) (by first | exact hW _ _ _ (by omega) rfl | assumption) ?_
          refine wp_iload_n (t := 41) rfl rfl ?_
          refine wp_iaload (t := 42) rfl (by omega) (by first | rfl | assumption) (by omega) (by omega) (by omega) ?_
          rw [e118]
          refine wp_icmp_ge (t := 43) (tgt := 133) rfl (by decide) (by first | assumption | exact hI0 _ _ | exact zin_and _ _ | (unfold zin; omega) | (unfold zin at *; omega)) (by first | assumption | exact hI0 _ _ | exact zin_and _ _ | (unfold zin; omega) | (unfold zin at *; omega)) (fun h73 => ?_) (fun h73 => ?_)
          · exact absurd h73 (by omega)
          · refine wp_aload_n (t := 44) rfl rfl ?_
            refine wp_getR (t := 45) (ji := 35) rfl fX10_70 rfl rfl (by omega) (by first | rfl | assumption) (by first | exact hW _ _ _ (by omega) rfl | assumption) ?_
            refine wp_iload (t := 46) rfl rfl ?_
            refine wp_iaload (t := 47) rfl (by omega) (by first | rfl | assumption) (by omega) (by omega) (by omega) ?_
            rw [a1]
            refine wp_if_ge (t := 48) (tgt := 123) rfl (by decide) (by rw [← a1]; exact hI0 _ _) (fun h83 => ?_) (fun h83 => ?_)
            · refine wp_iload (t := 70) rfl rfl ?_
              refine wp_istore (t := 71) rfl (by decide) rfl ?_
              refine wp_iinc (t := 72) rfl rfl (by decide) rfl ?_
              refine wp_goto (t := 73) (tgt := 65) rfl (by decide) ?_
              have hh := ihk (k + 1) (by omega) (by omega) (by omega) x7
              rw [hzs, if_neg (fun q => by omega)] at hh
              exact hh
            · refine wp_iload (t := 49) rfl rfl ?_
              refine wp_if_lt (t := 50) (tgt := 118) rfl (by decide) (by first | assumption | exact hI0 _ _ | exact zin_and _ _ | (unfold zin; omega) | (unfold zin at *; omega)) (fun h88 => ?_) (fun h88 => ?_)
              · refine wp_iload (t := 68) rfl rfl ?_
                refine wp_goto (t := 69) (tgt := 125) rfl (by decide) ?_
                refine wp_istore (t := 71) rfl (by decide) rfl ?_
                refine wp_iinc (t := 72) rfl rfl (by decide) rfl ?_
                refine wp_goto (t := 73) (tgt := 65) rfl (by decide) ?_
                have hh := ihk (k + 1) (by omega) (by omega) (by omega) x7
                rw [hzs, if_pos (by omega)] at hh
                exact hh
              · refine wp_aload_n (t := 51) rfl rfl ?_
                refine wp_getR (t := 52) (ji := 7) rfl fX10_19 rfl rfl (by omega) (by first | rfl | assumption) (by first | exact hW _ _ _ (by omega) rfl | assumption) ?_
                refine wp_bipush (t := 53) rfl (by decide) ?_
                refine wp_iload_n (t := 54) rfl rfl ?_
                refine wp_imul (t := 55) rfl ?_
                refine wp_iload (t := 56) rfl rfl ?_
                refine wp_iadd (t := 57) rfl ?_
                refine wp_iaload (t := 58) rfl (by omega) (by first | rfl | assumption) (by omega) (by omega) (by omega) ?_
                refine wp_aload_n (t := 59) rfl rfl ?_
                refine wp_getR (t := 60) (ji := 7) rfl fX10_19 rfl rfl (by omega) (by first | rfl | assumption) (by first | exact hW _ _ _ (by omega) rfl | assumption) ?_
                refine wp_bipush (t := 61) rfl (by decide) ?_
                refine wp_iload_n (t := 62) rfl rfl ?_
                refine wp_imul (t := 63) rfl ?_
                refine wp_iload (t := 64) rfl rfl ?_
                refine wp_iadd (t := 65) rfl ?_
                refine wp_iaload (t := 66) rfl (by omega) (by first | rfl | assumption) (by omega) (by omega) (by omega) ?_
                rw [e119]
                refine wp_icmp_le (t := 67) (tgt := 123) rfl (by decide) (by rw [← e119]; exact hI0 _ _) (by rw [← e119]; exact hI0 _ _) (fun h115 => ?_) (fun h115 => ?_)
                · refine wp_iload (t := 70) rfl rfl ?_
                  refine wp_istore (t := 71) rfl (by decide) rfl ?_
                  refine wp_iinc (t := 72) rfl rfl (by decide) rfl ?_
                  refine wp_goto (t := 73) (tgt := 65) rfl (by decide) ?_
                  have hh := ihk (k + 1) (by omega) (by omega) (by omega) x7
                  rw [hzs, if_neg (fun q => by omega)] at hh
                  exact hh
                · refine wp_iload (t := 68) rfl rfl ?_
                  refine wp_goto (t := 69) (tgt := 125) rfl (by decide) ?_
                  refine wp_istore (t := 71) rfl (by decide) rfl ?_
                  refine wp_iinc (t := 72) rfl rfl (by decide) rfl ?_
                  refine wp_goto (t := 73) (tgt := 65) rfl (by decide) ?_
                  have hh := ihk (k + 1) (by omega) (by omega) (by omega) x7
                  rw [hzs, if_pos (by omega)] at hh
                  exact hh
      refine wp_canon (fun hI0 => ?_)
      refine wp_iload (t := 28) rfl rfl ?_
      refine wp_aload_n (t := 29) rfl rfl ?_
      refine wp_getR (t := 30) (ji := 6) rfl fX10_16 rfl rfl (by omega) (by first | rfl | assumption) (by first | exact hW _ _ _ (by omega) rfl | assumption) ?_
      refine wp_iload_n (t := 31) rfl rfl ?_
      refine wp_iaload (t := 32) rfl (by omega) (by first | rfl | assumption) (by omega) (by omega) (by omega) ?_
      rw [e118]
      refine wp_icmp_ge (t := 33) (tgt := 237) rfl (by decide) (by first | assumption | exact hI0 _ _ | exact zin_and _ _ | (unfold zin; omega) | (unfold zin at *; omega)) (by first | assumption | exact hI0 _ _ | exact zin_and _ _ | (unfold zin; omega) | (unfold zin at *; omega)) (fun h55 => ?_) (fun h55 => ?_)
      · exact absurd h55 (by omega)
      · refine wp_bipush (t := 34) rfl (by decide) ?_
        refine wp_istore (t := 35) rfl (by decide) rfl ?_
        refine wp_iconst (t := 36) rfl ?_
        refine wp_istore (t := 37) rfl (by decide) rfl ?_
        exact keyK _ 0 (by omega) (by omega) rfl _
  have key2 : ∀ (m : Nat) (k : Int) (J : zMem), 0 ≤ k → k ≤ 6 → (6 - k).toNat = m → mSw I J → (∀ x : Int, 0 ≤ x → x < w → J 135 x = 0) → (∀ i : Int, 0 ≤ i → i < k → J 136 i = -4) →
      WP G mX10_wrapOf d 0 0 0 0 22 [some (zR 115), some (zI c), some (zI w), some (zI k), none, none, none, none] [] n J R (zP1 (fun r I' R' => (r = (mLp I c w (I 118 c).toNat).2.2 ∧ (1 ≤ r ∧ r ≤ 54) ∧ mSw I I' ∧ ∀ i : Int, 0 ≤ i → i < 6 → I' 136 i = (mLp I c w (I 118 c).toNat).2.1 i) ∧ R' = R)) := by
    intro m
    induction m with
    | zero =>
      intro k J h0 h1 hm sm hl hla
      refine wp_canon (fun hI0 => ?_)
      refine wp_iload_n (t := 14) rfl rfl ?_
      refine wp_bipush (t := 15) rfl (by decide) ?_
      refine wp_icmp_ge (t := 16) (tgt := 42) rfl (by decide) (by first | assumption | exact hI0 _ _ | exact zin_and _ _ | (unfold zin; omega) | (unfold zin at *; omega)) (by first | assumption | exact hI0 _ _ | exact zin_and _ _ | (unfold zin; omega) | (unfold zin at *; omega)) (fun h25 => ?_) (fun h25 => ?_)
      · refine wp_iconst (t := 24) rfl ?_
        refine wp_istore_n (t := 25) rfl (by decide) rfl ?_
        refine wp_iconst (t := 26) rfl ?_
        refine wp_istore (t := 27) rfl (by decide) rfl ?_
        exact key _ 0 J none none none (by omega) (by omega) rfl sm hl (fun i i0 i1 => hla i i0 (by omega))
      · exact absurd h25 (by omega)
    | succ m ih =>
      intro k J h0 h1 hm sm hl hla
      refine wp_canon (fun hI0 => ?_)
      refine wp_iload_n (t := 14) rfl rfl ?_
      refine wp_bipush (t := 15) rfl (by decide) ?_
      refine wp_icmp_ge (t := 16) (tgt := 42) rfl (by decide) (by first | assumption | exact hI0 _ _ | exact zin_and _ _ | (unfold zin; omega) | (unfold zin at *; omega)) (by first | assumption | exact hI0 _ _ | exact zin_and _ _ | (unfold zin; omega) | (unfold zin at *; omega)) (fun h25 => ?_) (fun h25 => ?_)
      · exact absurd h25 (by omega)
      · refine wp_aload_n (t := 17) rfl rfl ?_
        refine wp_getR (t := 18) (ji := 35) rfl fX10_70 rfl rfl (by omega) (by first | rfl | assumption) (by first | exact hW _ _ _ (by omega) rfl | assumption) ?_
        refine wp_iload_n (t := 19) rfl rfl ?_
        refine wp_bipush (t := 20) rfl (by decide) ?_
        refine wp_iastore (t := 21) rfl (by omega) (by first | rfl | assumption) (by omega) (by omega) (by omega) (by first | assumption | exact hI0 _ _ | exact zin_and _ _ | (unfold zin; omega) | (unfold zin at *; omega)) ?_
        refine wp_canon (fun hI1 => ?_)
        refine wp_iinc (t := 22) rfl rfl (by decide) rfl ?_
        refine wp_goto (t := 23) (tgt := 22) rfl (by decide) ?_
        refine ih (k + 1) _ (by omega) (by omega) (by omega) (fun b g1 g2 => by rw [zu_ne g2]; exact sm b g1 g2) (fun x x0 x1 => by rw [zu_ne (by decide)]; exact hl x x0 x1) (fun i i0 i1 => ?_)
        by_cases e : i = k
        · rw [e, zu_eq]
        · rw [zu_ni e]
          exact hla i i0 (by omega)
  have key1 : ∀ (m : Nat) (k : Int) (J : zMem), 0 ≤ k → k ≤ w → (w - k).toNat = m → mSw I J → (∀ x : Int, 0 ≤ x → x < k → J 135 x = 0) →
      WP G mX10_wrapOf d 0 0 0 0 2 [some (zR 115), some (zI c), some (zI w), some (zI k), none, none, none, none] [] n J R (zP1 (fun r I' R' => (r = (mLp I c w (I 118 c).toNat).2.2 ∧ (1 ≤ r ∧ r ≤ 54) ∧ mSw I I' ∧ ∀ i : Int, 0 ≤ i → i < 6 → I' 136 i = (mLp I c w (I 118 c).toNat).2.1 i) ∧ R' = R)) := by
    intro m
    induction m with
    | zero =>
      intro k J h0 h1 hm sm hl
      refine wp_canon (fun hI0 => ?_)
      refine wp_iload_n (t := 2) rfl rfl ?_
      refine wp_iload_n (t := 3) rfl rfl ?_
      refine wp_icmp_ge (t := 4) (tgt := 20) rfl (by decide) (by first | assumption | exact hI0 _ _ | exact zin_and _ _ | (unfold zin; omega) | (unfold zin at *; omega)) (by first | assumption | exact hI0 _ _ | exact zin_and _ _ | (unfold zin; omega) | (unfold zin at *; omega)) (fun h4 => ?_) (fun h4 => ?_)
      · refine wp_iconst (t := 12) rfl ?_
        refine wp_istore_n (t := 13) rfl (by decide) rfl ?_
        exact key2 _ 0 J (by omega) (by omega) rfl sm (fun x x0 x1 => hl x x0 (by omega)) (fun i i0 i1 => absurd i1 (by omega))
      · exact absurd h4 (by omega)
    | succ m ih =>
      intro k J h0 h1 hm sm hl
      refine wp_canon (fun hI0 => ?_)
      refine wp_iload_n (t := 2) rfl rfl ?_
      refine wp_iload_n (t := 3) rfl rfl ?_
      refine wp_icmp_ge (t := 4) (tgt := 20) rfl (by decide) (by first | assumption | exact hI0 _ _ | exact zin_and _ _ | (unfold zin; omega) | (unfold zin at *; omega)) (by first | assumption | exact hI0 _ _ | exact zin_and _ _ | (unfold zin; omega) | (unfold zin at *; omega)) (fun h4 => ?_) (fun h4 => ?_)
      · exact absurd h4 (by omega)
      · refine wp_aload_n (t := 5) rfl rfl ?_
        refine wp_getR (t := 6) (ji := 34) rfl fX10_67 rfl rfl (by omega) (by first | rfl | assumption) (by first | exact hW _ _ _ (by omega) rfl | assumption) ?_
        refine wp_iload_n (t := 7) rfl rfl ?_
        refine wp_iconst (t := 8) rfl ?_
        refine wp_iastore (t := 9) rfl (by omega) (by first | rfl | assumption) (by omega) (by omega) (by omega) (by first | assumption | exact hI0 _ _ | exact zin_and _ _ | (unfold zin; omega) | (unfold zin at *; omega)) ?_
        refine wp_canon (fun hI1 => ?_)
        refine wp_iinc (t := 10) rfl rfl (by decide) rfl ?_
        refine wp_goto (t := 11) (tgt := 2) rfl (by decide) ?_
        refine ih (k + 1) _ (by omega) (by omega) (by omega) (fun b g1 g2 => by rw [zu_ne g1]; exact sm b g1 g2) (fun x x0 x1 => ?_)
        by_cases e : x = k
        · rw [e, zu_eq]
        · rw [zu_ni e]
          exact hl x x0 (by omega)
  refine wp_ls (ls' := [some (zR 115), some (zI c), some (zI w), none, none, none, none, none]) rfl ?_
  refine wp_iconst (t := 0) rfl ?_
  refine wp_istore_n (t := 1) rfl (by decide) rfl ?_
  exact key1 _ 0 I (by omega) (by omega) rfl (fun _ _ _ => rfl) (fun x x0 x1 => absurd x1 (by omega))
theorem zpair {x a b : Int} {P : Prop} (h1 : a = b) (h2 : 2 ≤ b ∧ b ≤ 2234) (h : x = b) (hp : P) : x = a ∧ (2 ≤ x ∧ x ≤ 2234) ∧ P := ⟨h.trans h1.symm, by omega, hp⟩
/-- what a core of kind k takes in the reference -/
def mTo (I : zMem) (k c w : Int) : Int := tkOf k (I 116 c) (mLp I c w (I 118 c).toNat).2.2
set_option maxHeartbeats 4000000 in
set_option maxRecDepth 100000 in
theorem c_X10_takesBy {G : zG} {d n : Nat} {I : zMem} {R : zRef} {k c w : Int} (hW : zWir n R) (hn : 143 ≤ n) (hc : 0 ≤ c ∧ c < 6) (hw : 1 ≤ w ∧ w ≤ 8) (hwc : mWc I c) (hp : 1 ≤ I 116 c ∧ I 116 c ≤ 20) (hk : zin k) : MT G mX10_takesBy (d + 1) 0 0 [zR 115, zI k, zI c, zI w] n I R (zP1 (fun r I' R' => (r = mTo I k c w ∧ (2 ≤ r ∧ r ≤ 2234) ∧ mSw I I') ∧ R' = R)) := by
  refine MT.of (by decide +kernel) tX10_takesBy_ok (Nat.le_of_ble_eq_true rfl) (fun hI0 => ?_)
  refine wp_ls (ls' := [some (zR 115), some (zI k), some (zI c), some (zI w), none, none, none, none]) rfl ?_
  refine wp_aload_n (t := 0) rfl rfl ?_
  refine wp_iload_n (t := 1) rfl rfl ?_
  refine wp_iload_n (t := 2) rfl rfl ?_
  refine wp_vi (ci := 10) (c_X10_wrapOf (d := d) hW hn hc hw hwc) (t := 3) rfl kX10_201 rfl rfl (by omega) (by first | rfl | assumption) ⟨_, _, rfl⟩ (Nat.le_of_ble_eq_true rfl) ⟨Nat.le_refl _, Nat.le_refl _⟩ (fun r3 I3 R3 c3 => ?_)
  refine wp_canon (fun hI1 => ?_)
  obtain ⟨⟨e3, b3, sm3, l3⟩, zr3⟩ := c3
  have zr3 := zr3.symm
  subst zr3
  have e116 : I3 116 = I 116 := sm3 116 (by decide) (by decide)
  have h1 := zmulb (a := I 116 c) (b := r3) (A := 20) (B := 54) (by omega) hp.2 (by omega) b3.2
  have h2 := zmulb (a := I 116 c) (b := r3 + 1) (A := 20) (B := 55) (by omega) hp.2 (by omega) (by omega)
  have tb := tkOf_b (k := k) hp b3
  refine wp_istore (t := 4) rfl (by decide) rfl ?_
  refine wp_aload_n (t := 5) rfl rfl ?_
  refine wp_getR (t := 6) (ji := 4) rfl fX10_7 rfl rfl (by omega) (by first | rfl | assumption) (by first | exact hW _ _ _ (by omega) rfl | assumption) ?_
  refine wp_iload_n (t := 7) rfl rfl ?_
  refine wp_iaload (t := 8) rfl (by omega) (by first | rfl | assumption) (by omega) (by omega) (by omega) ?_
  rw [e116]
  refine wp_istore (t := 9) rfl (by decide) rfl ?_
  refine wp_iload (t := 10) rfl rfl ?_
  refine wp_iload (t := 11) rfl rfl ?_
  refine wp_iconst (t := 12) rfl ?_
  refine wp_iadd (t := 13) rfl ?_
  refine wp_imul (t := 14) rfl ?_
  refine wp_iload (t := 15) rfl rfl ?_
  refine wp_iadd (t := 16) rfl ?_
  refine wp_istore (t := 17) rfl (by decide) rfl ?_
  refine wp_iload (t := 18) rfl rfl ?_
  refine wp_iload (t := 19) rfl rfl ?_
  refine wp_iload (t := 20) rfl rfl ?_
  refine wp_imul (t := 21) rfl ?_
  refine wp_iadd (t := 22) rfl ?_
  refine wp_istore (t := 23) rfl (by decide) rfl ?_
  refine wp_iload_n (t := 24) rfl rfl ?_
  refine wp_top (fun y39 e39 => ?_)
  have z39 : zin y39 := (by first | assumption | exact hI1 _ _ | exact hI0 _ _ | exact zin_and _ _ | (unfold zin; omega) | (unfold zin at *; omega) | (rw [e39]; first | exact hI1 _ _ | exact hI0 _ _ | (unfold zin; omega)))
  rcases (show y39 = 0 ∨ y39 = 1 ∨ y39 = 2 ∨ (y39 < 0 ∨ 2 < y39) by omega) with h39 | h39 | h39 | h39
  · refine wp_tin (0) (t := 25) (off := 25) (tgt := 64) rfl h39 z39 (by decide) (by decide) rfl (by decide) ?_
    refine wp_iload (t := 26) rfl rfl ?_
    refine wp_ireturn (t := 27) rfl rfl ?_
    have ev : mTo I k c w = tkOf k (I 116 c) r3 := by rw [e3]; rfl
    refine ⟨_, rfl, zpair ev tb ?_ sm3, rfl⟩
    unfold tkOf
    first | exact (if_pos (by omega)).symm | (rw [if_neg (by omega), if_pos (by omega)]) | (rw [if_neg (by omega), if_neg (by omega), if_pos (by omega)]; omega) | (rw [if_neg (by omega), if_neg (by omega), if_neg (by omega)]; exact ztdiv2 (by omega))
  · refine wp_tin (1) (t := 25) (off := 28) (tgt := 67) rfl h39 z39 (by decide) (by decide) rfl (by decide) ?_
    refine wp_iload (t := 28) rfl rfl ?_
    refine wp_ireturn (t := 29) rfl rfl ?_
    have ev : mTo I k c w = tkOf k (I 116 c) r3 := by rw [e3]; rfl
    refine ⟨_, rfl, zpair ev tb ?_ sm3, rfl⟩
    unfold tkOf
    first | exact (if_pos (by omega)).symm | (rw [if_neg (by omega), if_pos (by omega)]) | (rw [if_neg (by omega), if_neg (by omega), if_pos (by omega)]; omega) | (rw [if_neg (by omega), if_neg (by omega), if_neg (by omega)]; exact ztdiv2 (by omega))
  · refine wp_tin (2) (t := 25) (off := 31) (tgt := 70) rfl h39 z39 (by decide) (by decide) rfl (by decide) ?_
    refine wp_iload (t := 30) rfl rfl ?_
    refine wp_bipush (t := 31) rfl (by decide) ?_
    refine wp_icmp_ge (t := 32) (tgt := 82) rfl (by decide) (by first | assumption | exact hI1 _ _ | exact hI0 _ _ | exact zin_and _ _ | (unfold zin; omega) | (unfold zin at *; omega)) (by first | assumption | exact hI1 _ _ | exact hI0 _ _ | exact zin_and _ _ | (unfold zin; omega) | (unfold zin at *; omega)) (fun h74 => ?_) (fun h74 => ?_)
    · refine wp_iload (t := 35) rfl rfl ?_
      refine wp_ireturn (t := 36) rfl rfl ?_
      have ev : mTo I k c w = tkOf k (I 116 c) r3 := by rw [e3]; rfl
      refine ⟨_, rfl, zpair ev tb ?_ sm3, rfl⟩
      unfold tkOf
      first | exact (if_pos (by omega)).symm | (rw [if_neg (by omega), if_pos (by omega)]) | (rw [if_neg (by omega), if_neg (by omega), if_pos (by omega)]; omega) | (rw [if_neg (by omega), if_neg (by omega), if_neg (by omega)]; exact ztdiv2 (by omega))
    · refine wp_bipush (t := 33) rfl (by decide) ?_
      refine wp_goto (t := 34) (tgt := 84) rfl (by decide) ?_
      refine wp_ireturn (t := 36) rfl rfl ?_
      have ev : mTo I k c w = tkOf k (I 116 c) r3 := by rw [e3]; rfl
      refine ⟨_, rfl, zpair ev tb ?_ sm3, rfl⟩
      unfold tkOf
      first | exact (if_pos (by omega)).symm | (rw [if_neg (by omega), if_pos (by omega)]) | (rw [if_neg (by omega), if_neg (by omega), if_pos (by omega)]; omega) | (rw [if_neg (by omega), if_neg (by omega), if_neg (by omega)]; exact ztdiv2 (by omega))
  · refine wp_tout (t := 25) (tgt := 85) rfl z39 h39 (by decide) ?_
    refine wp_iload (t := 37) rfl rfl ?_
    refine wp_iconst (t := 38) rfl ?_
    refine wp_iadd (t := 39) rfl ?_
    refine wp_iconst (t := 40) rfl ?_
    refine wp_idiv (t := 41) rfl (by first | assumption | exact hI1 _ _ | exact hI0 _ _ | exact zin_and _ _ | (unfold zin; omega) | (unfold zin at *; omega)) (by first | assumption | exact hI1 _ _ | exact hI0 _ _ | exact zin_and _ _ | (unfold zin; omega) | (unfold zin at *; omega)) (by omega) ?_
    refine wp_ireturn (t := 42) rfl rfl ?_
    have ev : mTo I k c w = tkOf k (I 116 c) r3 := by rw [e3]; rfl
    refine ⟨_, rfl, zpair ev tb ?_ sm3, rfl⟩
    unfold tkOf
    first | exact (if_pos (by omega)).symm | (rw [if_neg (by omega), if_pos (by omega)]) | (rw [if_neg (by omega), if_neg (by omega), if_pos (by omega)]; omega) | (rw [if_neg (by omega), if_neg (by omega), if_neg (by omega)]; exact ztdiv2 (by omega))
