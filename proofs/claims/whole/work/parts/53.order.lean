/-! the reference: orders -/
def zsw (o : Int → Int) (i j : Int) : Int → Int := fun k => if k = i then o j else if k = j then o i else o k
set_option maxHeartbeats 4000000 in
set_option maxRecDepth 100000 in
theorem c_X10_swap {G : zG} {d n : Nat} {I : zMem} {R : zRef} {i j : Int} (hW : zWir n R) (hn : 143 ≤ n) (hi : 0 ≤ i ∧ i < 6) (hj : 0 ≤ j ∧ j < 6) : MT G mX10_swap d 0 0 [zR 115, zI i, zI j] n I R (zP0 (fun I' R' => ((∀ b : Nat, b ≠ 141 → I' b = I b) ∧ ∀ k : Int, I' 141 k = zsw (I 141) i j k) ∧ R' = R)) := by
  refine MT.of (by decide +kernel) tX10_swap_ok (Nat.le_of_ble_eq_true rfl) (fun hI0 => ?_)
  refine wp_ls (ls' := [some (zR 115), some (zI i), some (zI j), none]) rfl ?_
  refine wp_aload_n (t := 0) rfl rfl ?_
  refine wp_getR (t := 1) (ji := 42) rfl fX10_85 rfl rfl (by omega) (by first | rfl | assumption) (by first | exact hW _ _ _ (by omega) rfl | assumption) ?_
  refine wp_iload_n (t := 2) rfl rfl ?_
  refine wp_iaload (t := 3) rfl (by omega) (by first | rfl | assumption) (by omega) (by omega) (by omega) ?_
  refine wp_istore_n (t := 4) rfl (by decide) rfl ?_
  refine wp_aload_n (t := 5) rfl rfl ?_
  refine wp_getR (t := 6) (ji := 42) rfl fX10_85 rfl rfl (by omega) (by first | rfl | assumption) (by first | exact hW _ _ _ (by omega) rfl | assumption) ?_
  refine wp_iload_n (t := 7) rfl rfl ?_
  refine wp_aload_n (t := 8) rfl rfl ?_
  refine wp_getR (t := 9) (ji := 42) rfl fX10_85 rfl rfl (by omega) (by first | rfl | assumption) (by first | exact hW _ _ _ (by omega) rfl | assumption) ?_
  refine wp_iload_n (t := 10) rfl rfl ?_
  refine wp_iaload (t := 11) rfl (by omega) (by first | rfl | assumption) (by omega) (by omega) (by omega) ?_
  refine wp_iastore (t := 12) rfl (by omega) (by first | rfl | assumption) (by omega) (by omega) (by omega) (by first | assumption | exact hI0 _ _ | exact zin_and _ _ | (unfold zin; omega) | (unfold zin at *; omega)) ?_
  refine wp_canon (fun hI1 => ?_)
  refine wp_aload_n (t := 13) rfl rfl ?_
  refine wp_getR (t := 14) (ji := 42) rfl fX10_85 rfl rfl (by omega) (by first | rfl | assumption) (by first | exact hW _ _ _ (by omega) rfl | assumption) ?_
  refine wp_iload_n (t := 15) rfl rfl ?_
  refine wp_iload_n (t := 16) rfl rfl ?_
  refine wp_iastore (t := 17) rfl (by omega) (by first | rfl | assumption) (by omega) (by omega) (by omega) (by first | assumption | exact hI1 _ _ | exact hI0 _ _ | exact zin_and _ _ | (unfold zin; omega) | (unfold zin at *; omega)) ?_
  refine wp_canon (fun hI2 => ?_)
  refine wp_return (t := 18) rfl rfl ?_
  refine ⟨rfl, ⟨fun b hb => by rw [zu_ne hb, zu_ne hb], fun k => ?_⟩, rfl⟩
  unfold zsw
  by_cases e : k = j
  · rw [e, zu_eq]
    by_cases e2 : j = i
    · rw [if_pos e2, e2]
    · rw [if_neg e2, if_pos rfl]
  · rw [zu_ni e]
    by_cases e2 : k = i
    · rw [if_pos e2, e2, zu_eq]
    · rw [if_neg e2, if_neg e, zu_ni e2]
/-- the last place where an order rises, below m; -1 -/
def zNi (o : Int → Int) : Nat → Int
  | 0 => -1
  | m + 1 => if o m ≤ o (m + 1) then m else zNi o m
/-- the last place below m at which there is x or more -/
def zNj (o : Int → Int) (x : Int) : Nat → Int
  | 0 => 0
  | m + 1 => if o m < x then zNj o x m else m
/-- the order behind o -/
def nxO (N : Int) (o : Int → Int) : Int → Int := fun k => if k ≤ zNi o (N - 1).toNat then zsw o (zNi o (N - 1).toNat) (zNj o (o (zNi o (N - 1).toNat)) N.toNat) k else zsw o (zNi o (N - 1).toNat) (zNj o (o (zNi o (N - 1).toNat)) N.toNat) (N + zNi o (N - 1).toNat - k)
theorem zNi_b (o : Int → Int) : ∀ m : Nat, -1 ≤ zNi o m ∧ zNi o m < m ∧ (0 ≤ zNi o m → o (zNi o m) ≤ o (zNi o m + 1)) := by
  intro m
  induction m with
  | zero => exact ⟨Int.le_refl _, by show (-1 : Int) < 0; omega, fun h => absurd h (by show ¬ (0 : Int) ≤ -1; omega)⟩
  | succ m ih =>
    show -1 ≤ (if o m ≤ o (m + 1) then (m : Int) else zNi o m) ∧ (if o m ≤ o (m + 1) then (m : Int) else zNi o m) < ((m + 1 : Nat) : Int) ∧ (0 ≤ (if o m ≤ o (m + 1) then (m : Int) else zNi o m) → o (if o m ≤ o (m + 1) then (m : Int) else zNi o m) ≤ o ((if o m ≤ o (m + 1) then (m : Int) else zNi o m) + 1))
    by_cases q : o m ≤ o (m + 1)
    · rw [if_pos q]
      exact ⟨by omega, by omega, fun _ => q⟩
    · rw [if_neg q]
      exact ⟨ih.1, by omega, ih.2.2⟩
theorem zNi_succ (o : Int → Int) {i : Int} (h : 0 ≤ i) : zNi o (i + 1).toNat = if o i ≤ o (i + 1) then i else zNi o i.toNat := by
  rw [show (i + 1).toNat = i.toNat + 1 by omega]
  have e : ((i.toNat : Nat) : Int) = i := Int.toNat_of_nonneg h
  show (if o (i.toNat : Int) ≤ o ((i.toNat : Int) + 1) then (i.toNat : Int) else zNi o i.toNat) = _
  rw [e]
theorem zNj_succ (o : Int → Int) (x : Int) {j : Int} (h : 0 ≤ j) : zNj o x (j + 1).toNat = if o j < x then zNj o x j.toNat else j := by
  rw [show (j + 1).toNat = j.toNat + 1 by omega]
  have e : ((j.toNat : Nat) : Int) = j := Int.toNat_of_nonneg h
  show (if o (j.toNat : Int) < x then zNj o x j.toNat else (j.toNat : Int)) = _
  rw [e]
theorem zNj_b (o : Int → Int) (x : Int) {i : Int} (hi : 0 ≤ i) (h : x ≤ o i) : ∀ m : Nat, i < m → i ≤ zNj o x m ∧ zNj o x m < m := by
  intro m
  induction m with
  | zero => intro h; omega
  | succ m ih =>
    intro hm
    show i ≤ (if o m < x then zNj o x m else (m : Int)) ∧ (if o m < x then zNj o x m else (m : Int)) < ((m + 1 : Nat) : Int)
    by_cases q : o m < x
    · rw [if_pos q]
      have ne : i ≠ m := fun e => by rw [e] at h; omega
      have := ih (by omega)
      omega
    · rw [if_neg q]
      omega
theorem zNi_congr {o o' : Int → Int} : ∀ m : Nat, (∀ k : Int, 0 ≤ k → k ≤ m → o k = o' k) → zNi o m = zNi o' m := by
  intro m
  induction m with
  | zero => intro _; rfl
  | succ m ih =>
    intro h
    show (if o m ≤ o (m + 1) then (m : Int) else zNi o m) = (if o' m ≤ o' (m + 1) then (m : Int) else zNi o' m)
    rw [h m (by omega) (by omega), h (m + 1) (by omega) (by omega), ih (fun k k0 k1 => h k k0 (by omega))]
theorem zNj_congr {o o' : Int → Int} {x : Int} : ∀ m : Nat, (∀ k : Int, 0 ≤ k → k < m → o k = o' k) → zNj o x m = zNj o' x m := by
  intro m
  induction m with
  | zero => intro _; rfl
  | succ m ih =>
    intro h
    show (if o m < x then zNj o x m else (m : Int)) = (if o' m < x then zNj o' x m else (m : Int))
    rw [h m (by omega) (by omega), ih (fun k k0 k1 => h k k0 (by omega))]
theorem nxO_congr {N : Int} {o o' : Int → Int} (hN : 1 ≤ N) (h : ∀ k : Int, 0 ≤ k → k < N → o k = o' k) (hi : 0 ≤ zNi o (N - 1).toNat) : ∀ k : Int, 0 ≤ k → k < N → nxO N o k = nxO N o' k := by
  have e1 : zNi o (N - 1).toNat = zNi o' (N - 1).toNat := zNi_congr _ (fun k k0 k1 => h k k0 (by omega))
  have b := zNi_b o (N - 1).toNat
  have e2 : o (zNi o (N - 1).toNat) = o' (zNi o (N - 1).toNat) := h _ hi (by omega)
  have e3 : zNj o (o (zNi o (N - 1).toNat)) N.toNat = zNj o' (o (zNi o (N - 1).toNat)) N.toNat := zNj_congr _ (fun k k0 k1 => h k k0 (by omega))
  have bj := zNj_b o (o (zNi o (N - 1).toNat)) (i := zNi o (N - 1).toNat + 1) (by omega) (b.2.2 hi) N.toNat (by omega)
  have es : ∀ k : Int, 0 ≤ k → k < N → zsw o (zNi o (N - 1).toNat) (zNj o (o (zNi o (N - 1).toNat)) N.toNat) k = zsw o' (zNi o (N - 1).toNat) (zNj o (o (zNi o (N - 1).toNat)) N.toNat) k := fun k k0 k1 => by
    unfold zsw
    rw [h (zNj o (o (zNi o (N - 1).toNat)) N.toNat) (by omega) (by omega), h k k0 k1, h _ hi (by omega)]
  intro k k0 k1
  unfold nxO
  rw [← e1, ← e2, ← e3]
  by_cases q : k ≤ zNi o (N - 1).toNat
  · rw [if_pos q, if_pos q]
    exact es k k0 k1
  · rw [if_neg q, if_neg q]
    exact es _ (by omega) (by omega)
set_option maxHeartbeats 4000000 in
set_option maxRecDepth 100000 in
theorem c_X10_nextOrder {G : zG} {d n : Nat} {I : zMem} {R : zRef} (hW : zWir n R) (hn : 143 ≤ n) (hco : 1 ≤ I 115 2 ∧ I 115 2 ≤ 6) : MT G mX10_nextOrder (d + 1) 0 0 [zR 115] n I R (zP1 (fun r I' R' => ((zNi (I 141) (I 115 2 - 1).toNat < 0 ∧ r = 0 ∧ I' = I) ∨ (0 ≤ zNi (I 141) (I 115 2 - 1).toNat ∧ r = 1 ∧ (∀ b : Nat, b ≠ 141 → I' b = I b) ∧ ∀ k : Int, 0 ≤ k → k < I 115 2 → I' 141 k = nxO (I 115 2) (I 141) k)) ∧ R' = R)) := by
  refine MT.of (by decide +kernel) tX10_nextOrder_ok (Nat.le_of_ble_eq_true rfl) (fun hI0 => ?_)
  generalize hNe : I 115 2 = N at *
  generalize hie : zNi (I 141) (N - 1).toNat = i0
  have bi := zNi_b (I 141) (N - 1).toNat
  rw [hie] at bi
  -- turned round behind i0
  have keyR : 0 ≤ i0 → ∀ (o1 : Int → Int), (∀ k : Int, o1 k = zsw (I 141) i0 (zNj (I 141) (I 141 i0) N.toNat) k) → ∀ (m : Nat) (a b : Int) (J : zMem) (x2 : Int), i0 < a → b < N → a + b = N + i0 → (b - a).toNat ≤ m → a ≤ b + 1 → (∀ k : Int, 0 ≤ k → k < N → J 141 k = if i0 < k ∧ (k < a ∨ b < k) then o1 (N + i0 - k) else o1 k) → (∀ b : Nat, b ≠ 141 → J b = I b) →
      WP G mX10_nextOrder (d + 1) 0 0 0 0 86 [some (zR 115), some (zI i0), some (zI x2), some (zI a), some (zI b)] [] n J R (zP1 (fun r I' R' => ((i0 < 0 ∧ r = 0 ∧ I' = I) ∨ (0 ≤ i0 ∧ r = 1 ∧ (∀ b : Nat, b ≠ 141 → I' b = I b) ∧ ∀ k : Int, 0 ≤ k → k < N → I' 141 k = nxO N (I 141) k)) ∧ R' = R)) := by
    intro h0 o1 ho1 m
    have fin : ∀ J : zMem, (∀ k : Int, 0 ≤ k → k < N → J 141 k = if i0 < k then o1 (N + i0 - k) else o1 k) → ∀ k : Int, 0 ≤ k → k < N → J 141 k = nxO N (I 141) k := fun J hJ k k0 k1 => by
      rw [hJ k k0 k1]
      unfold nxO
      rw [hie, ← ho1, ← ho1]
      by_cases q : i0 < k
      · rw [if_pos q, if_neg (by omega)]
      · rw [if_neg q, if_pos (by omega)]
    induction m with
    | zero =>
      intro a b J x2 ha hb hab hm hle hJ hf
      refine wp_canon (fun hI0 => ?_)
      refine wp_iload_n (t := 53) rfl rfl ?_
      refine wp_iload (t := 54) rfl rfl ?_
      refine wp_icmp_ge (t := 55) (tgt := 108) rfl (by decide) (by first | assumption | exact hI0 _ _ | exact zin_and _ _ | (unfold zin; omega) | (unfold zin at *; omega)) (by first | assumption | exact hI0 _ _ | exact zin_and _ _ | (unfold zin; omega) | (unfold zin at *; omega)) (fun h89 => ?_) (fun h89 => ?_)
      · refine wp_iconst (t := 63) rfl ?_
        refine wp_zreturn (t := 64) rfl rfl (by omega) ?_
        refine ⟨_, rfl, Or.inr ⟨h0, rfl, hf, fin J (fun k k0 k1 => ?_)⟩, rfl⟩
        rw [hJ k k0 k1]
        by_cases q : i0 < k
        · by_cases q2 : k < a ∨ b < k
          · rw [if_pos ⟨q, q2⟩, if_pos q]
          · rw [if_neg (fun z => q2 z.2), if_pos q, show N + i0 - k = k by omega]
        · rw [if_neg (fun z => q z.1), if_neg q]
      · exact absurd h89 (by omega)
    | succ m ih =>
      intro a b J x2 ha hb hab hm hle hJ hf
      refine wp_canon (fun hI0 => ?_)
      refine wp_iload_n (t := 53) rfl rfl ?_
      refine wp_iload (t := 54) rfl rfl ?_
      refine wp_icmp_ge (t := 55) (tgt := 108) rfl (by decide) (by first | assumption | exact hI0 _ _ | exact zin_and _ _ | (unfold zin; omega) | (unfold zin at *; omega)) (by first | assumption | exact hI0 _ _ | exact zin_and _ _ | (unfold zin; omega) | (unfold zin at *; omega)) (fun h89 => ?_) (fun h89 => ?_)
      · refine wp_iconst (t := 63) rfl ?_
        refine wp_zreturn (t := 64) rfl rfl (by omega) ?_
        refine ⟨_, rfl, Or.inr ⟨h0, rfl, hf, fin J (fun k k0 k1 => ?_)⟩, rfl⟩
        rw [hJ k k0 k1]
        by_cases q : i0 < k
        · by_cases q2 : k < a ∨ b < k
          · rw [if_pos ⟨q, q2⟩, if_pos q]
          · rw [if_neg (fun z => q2 z.2), if_pos q, show N + i0 - k = k by omega]
        · rw [if_neg (fun z => q z.1), if_neg q]
      · refine wp_aload_n (t := 56) rfl rfl ?_
        refine wp_iload_n (t := 57) rfl rfl ?_
        refine wp_iload (t := 58) rfl rfl ?_
        refine wp_vv (ci := 10) (c_X10_swap (d := d) hW hn ⟨by omega, by omega⟩ ⟨by omega, by omega⟩) (t := 59) rfl kX10_297 rfl rfl (by omega) (by first | rfl | assumption) ⟨_, _, rfl⟩ (Nat.le_of_ble_eq_true rfl) ⟨Nat.le_refl _, Nat.le_refl _⟩ (fun I96 R96 c96 => ?_)
        refine wp_canon (fun hI1 => ?_)
        obtain ⟨⟨f96, s96⟩, zr96⟩ := c96
        have zr96 := zr96.symm
        subst zr96
        refine wp_iinc (t := 60) rfl rfl (by decide) rfl ?_
        refine wp_iinc (t := 61) rfl rfl (by decide) rfl ?_
        refine wp_goto (t := 62) (tgt := 86) rfl (by decide) ?_
        refine ih (a + 1) (b - 1) _ _ (by omega) (by omega) (by omega) (by omega) (by omega) (fun k k0 k1 => ?_) (fun b hb => by rw [f96 b hb]; exact hf b hb)
        rw [s96 k]
        unfold zsw
        by_cases e1 : k = a
        · rw [if_pos e1, hJ b (by omega) (by omega), if_neg (by omega), if_pos (by omega), show N + i0 - k = b by omega]
        · by_cases e2 : k = b
          · rw [if_neg e1, if_pos e2, hJ a (by omega) (by omega), if_neg (by omega), if_pos (by omega), show N + i0 - k = a by omega]
          · rw [if_neg e1, if_neg e2, hJ k k0 k1]
            by_cases q : i0 < k ∧ (k < a ∨ b < k)
            · rw [if_pos q, if_pos (by omega)]
            · rw [if_neg q, if_neg (by omega)]
  -- the place to change with
  have keyJ : 0 ≤ i0 → ∀ (m : Nat) (j : Int), 0 ≤ j → j < N → j.toNat = m → zNj (I 141) (I 141 i0) N.toNat = zNj (I 141) (I 141 i0) (j + 1).toNat → i0 < j → 
      WP G mX10_nextOrder (d + 1) 0 0 0 0 47 [some (zR 115), some (zI i0), some (zI j), none, none] [] n I R (zP1 (fun r I' R' => ((i0 < 0 ∧ r = 0 ∧ I' = I) ∨ (0 ≤ i0 ∧ r = 1 ∧ (∀ b : Nat, b ≠ 141 → I' b = I b) ∧ ∀ k : Int, 0 ≤ k → k < N → I' 141 k = nxO N (I 141) k)) ∧ R' = R)) := by
    intro h0 m
    induction m with
    | zero => intro j j0 j1 hm; omega
    | succ m ih =>
      intro j j0 j1 hm hj hij
      have hs := zNj_succ (I 141) (I 141 i0) j0
      have hr := bi.2.2 h0
      refine wp_aload_n (t := 29) rfl rfl ?_
      refine wp_getR (t := 30) (ji := 42) rfl fX10_85 rfl rfl (by omega) (by first | rfl | assumption) (by first | exact hW _ _ _ (by omega) rfl | assumption) ?_
      refine wp_iload_n (t := 31) rfl rfl ?_
      refine wp_iaload (t := 32) rfl (by omega) (by first | rfl | assumption) (by omega) (by omega) (by omega) ?_
      refine wp_aload_n (t := 33) rfl rfl ?_
      refine wp_getR (t := 34) (ji := 42) rfl fX10_85 rfl rfl (by omega) (by first | rfl | assumption) (by first | exact hW _ _ _ (by omega) rfl | assumption) ?_
      refine wp_iload_n (t := 35) rfl rfl ?_
      refine wp_iaload (t := 36) rfl (by omega) (by first | rfl | assumption) (by omega) (by omega) (by omega) ?_
      refine wp_icmp_ge (t := 37) (tgt := 68) rfl (by decide) (by first | assumption | exact hI0 _ _ | exact zin_and _ _ | (unfold zin; omega) | (unfold zin at *; omega)) (by first | assumption | exact hI0 _ _ | exact zin_and _ _ | (unfold zin; omega) | (unfold zin at *; omega)) (fun h59 => ?_) (fun h59 => ?_)
      · refine wp_aload_n (t := 40) rfl rfl ?_
        refine wp_iload_n (t := 41) rfl rfl ?_
        refine wp_iload_n (t := 42) rfl rfl ?_
        refine wp_vv (ci := 10) (c_X10_swap (d := d) hW hn ⟨by omega, by omega⟩ ⟨by omega, by omega⟩) (t := 43) rfl kX10_297 rfl rfl (by omega) (by first | rfl | assumption) ⟨_, _, rfl⟩ (Nat.le_of_ble_eq_true rfl) ⟨Nat.le_refl _, Nat.le_refl _⟩ (fun I71 R71 c71 => ?_)
        refine wp_canon (fun hI1 => ?_)
        obtain ⟨⟨f71, s71⟩, zr71⟩ := c71
        have zr71 := zr71.symm
        subst zr71
        have ej : zNj (I 141) (I 141 i0) N.toNat = j := by rw [hj, hs, if_neg (by omega)]
        refine wp_iload_n (t := 44) rfl rfl ?_
        refine wp_iconst (t := 45) rfl ?_
        refine wp_iadd (t := 46) rfl ?_
        refine wp_istore_n (t := 47) rfl (by decide) rfl ?_
        refine wp_aload_n (t := 48) rfl rfl ?_
        refine wp_getI (t := 49) (ji := 2) rfl fX10_115 rfl rfl (by omega) (by first | rfl | assumption) ?_
        rw [f71 115 (by decide), hNe]
        refine wp_iconst (t := 50) rfl ?_
        refine wp_isub (t := 51) rfl ?_
        refine wp_istore (t := 52) rfl (by decide) rfl ?_
        exact keyR h0 (zsw (I 141) i0 j) (fun k => by rw [ej]) _ (i0 + 1) (N - 1) I71 _ (by omega) (by omega) (by omega) (Nat.le_refl _) (by omega) (fun k k0 k1 => by rw [if_neg (by omega)]; exact s71 k) f71
      · refine wp_iinc (t := 38) rfl rfl (by decide) rfl ?_
        refine wp_goto (t := 39) (tgt := 47) rfl (by decide) ?_
        have nj : j ≠ i0 + 1 := fun e => by rw [e] at h59; omega
        rw [show j + -1 = j - 1 by omega]
        exact ih (j - 1) (by omega) (by omega) (by omega) (by rw [hj, hs, if_pos (by omega), show j - 1 + 1 = j by omega]) (by omega)
  have keyI : ∀ (m : Nat) (i : Int), -1 ≤ i → i ≤ N - 2 → (i + 1).toNat = m → i0 = zNi (I 141) (i + 1).toNat →
      WP G mX10_nextOrder (d + 1) 0 0 0 0 7 [some (zR 115), some (zI i), none, none, none] [] n I R (zP1 (fun r I' R' => ((i0 < 0 ∧ r = 0 ∧ I' = I) ∨ (0 ≤ i0 ∧ r = 1 ∧ (∀ b : Nat, b ≠ 141 → I' b = I b) ∧ ∀ k : Int, 0 ≤ k → k < N → I' 141 k = nxO N (I 141) k)) ∧ R' = R)) := by
    intro m
    induction m with
    | zero =>
      intro i i1 i2 hm hi
      have ei : i0 = -1 := by rw [hi, show (i + 1).toNat = 0 by omega]; rfl
      refine wp_iload_n (t := 5) rfl rfl ?_
      refine wp_if_lt (t := 6) (tgt := 34) rfl (by decide) (by first | assumption | exact hI0 _ _ | exact zin_and _ _ | (unfold zin; omega) | (unfold zin at *; omega)) (fun h8 => ?_) (fun h8 => ?_)
      · refine wp_iload_n (t := 20) rfl rfl ?_
        refine wp_if_ge (t := 21) (tgt := 40) rfl (by decide) (by first | assumption | exact hI0 _ _ | exact zin_and _ _ | (unfold zin; omega) | (unfold zin at *; omega)) (fun h35 => ?_) (fun h35 => ?_)
        · exact absurd h35 (by omega)
        · refine wp_iconst (t := 22) rfl ?_
          refine wp_zreturn (t := 23) rfl rfl (by omega) ?_
          exact ⟨_, rfl, Or.inl ⟨by omega, rfl, rfl⟩, rfl⟩
      · exact absurd h8 (by omega)
    | succ m ih =>
      intro i i1 i2 hm hi
      have hs := zNi_succ (I 141) (i := i) (by omega)
      refine wp_iload_n (t := 5) rfl rfl ?_
      refine wp_if_lt (t := 6) (tgt := 34) rfl (by decide) (by first | assumption | exact hI0 _ _ | exact zin_and _ _ | (unfold zin; omega) | (unfold zin at *; omega)) (fun h8 => ?_) (fun h8 => ?_)
      · exact absurd h8 (by omega)
      · refine wp_aload_n (t := 7) rfl rfl ?_
        refine wp_getR (t := 8) (ji := 42) rfl fX10_85 rfl rfl (by omega) (by first | rfl | assumption) (by first | exact hW _ _ _ (by omega) rfl | assumption) ?_
        refine wp_iload_n (t := 9) rfl rfl ?_
        refine wp_iaload (t := 10) rfl (by omega) (by first | rfl | assumption) (by omega) (by omega) (by omega) ?_
        refine wp_aload_n (t := 11) rfl rfl ?_
        refine wp_getR (t := 12) (ji := 42) rfl fX10_85 rfl rfl (by omega) (by first | rfl | assumption) (by first | exact hW _ _ _ (by omega) rfl | assumption) ?_
        refine wp_iload_n (t := 13) rfl rfl ?_
        refine wp_iconst (t := 14) rfl ?_
        refine wp_iadd (t := 15) rfl ?_
        refine wp_iaload (t := 16) rfl (by omega) (by first | rfl | assumption) (by omega) (by omega) (by omega) ?_
        refine wp_icmp_le (t := 17) (tgt := 34) rfl (by decide) (by first | assumption | exact hI0 _ _ | exact zin_and _ _ | (unfold zin; omega) | (unfold zin at *; omega)) (by first | assumption | exact hI0 _ _ | exact zin_and _ _ | (unfold zin; omega) | (unfold zin at *; omega)) (fun h25 => ?_) (fun h25 => ?_)
        · refine wp_iload_n (t := 20) rfl rfl ?_
          refine wp_if_ge (t := 21) (tgt := 40) rfl (by decide) (by first | assumption | exact hI0 _ _ | exact zin_and _ _ | (unfold zin; omega) | (unfold zin at *; omega)) (fun h35 => ?_) (fun h35 => ?_)
          · refine wp_aload_n (t := 24) rfl rfl ?_
            refine wp_getI (t := 25) (ji := 2) rfl fX10_115 rfl rfl (by omega) (by first | rfl | assumption) ?_
            rw [hNe]
            refine wp_iconst (t := 26) rfl ?_
            refine wp_isub (t := 27) rfl ?_
            refine wp_istore_n (t := 28) rfl (by decide) rfl ?_
            have ei : i0 = i := by rw [hi, hs, if_pos (by omega)]
            rw [← ei]
            exact keyJ (by omega) _ (N - 1) (by omega) (by omega) rfl (by rw [show N - 1 + 1 = N by omega]) (by omega)
          · exact absurd h35 (by omega)
        · refine wp_iinc (t := 18) rfl rfl (by decide) rfl ?_
          refine wp_goto (t := 19) (tgt := 7) rfl (by decide) ?_
          rw [show i + -1 = i - 1 by omega]
          exact ih (i - 1) (by omega) (by omega) (by omega) (by rw [hi, hs, if_neg (by omega), show i - 1 + 1 = i by omega])
  refine wp_ls (ls' := [some (zR 115), none, none, none, none]) rfl ?_
  refine wp_aload_n (t := 0) rfl rfl ?_
  refine wp_getI (t := 1) (ji := 2) rfl fX10_115 rfl rfl (by omega) (by first | rfl | assumption) ?_
  rw [hNe]
  refine wp_iconst (t := 2) rfl ?_
  refine wp_isub (t := 3) rfl ?_
  refine wp_istore_n (t := 4) rfl (by decide) rfl ?_
  exact keyI _ (N - 2) (by omega) (by omega) rfl (by rw [← hie, show N - 2 + 1 = N - 1 by omega])
