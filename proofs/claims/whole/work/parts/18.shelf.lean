/-! the two shelves; a plan begun anew -/
/-- the rows of the shelf at o, of m places: rho tells which -/
def zShf (o m : Nat) (R : zRef) (rho : Int → Nat) : Prop := (∀ k : Int, 0 ≤ k → k < m → R (o + 1) k = some (rho k) ∧ o + 2 ≤ rho k ∧ rho k < o + 2 + m) ∧ ∀ j k : Int, 0 ≤ j → j < m → 0 ≤ k → k < m → rho j = rho k → j = k
theorem zshl {o m : Nat} (ho : (o = 95 ∧ m = 8) ∨ (o = 105 ∧ m = 2)) : (zlay o).1 = 6 ∧ zlay (o + 1) = (21, m) ∧ (∀ r : Nat, o + 2 ≤ r → r < o + 2 + m → zlay r = (20, 24)) ∧ o < 110 ∧ 2 ≤ m ∧ m ≤ 8 ∧ 95 ≤ o ∧ o + 2 + m < 115 := by
  rcases ho with ⟨rfl, rfl⟩ | ⟨rfl, rfl⟩
  · refine ⟨rfl, rfl, fun r h0 h1 => ?_, by omega, by omega, by omega, by omega, by omega⟩
    rcases (show r = 97 ∨ r = 98 ∨ r = 99 ∨ r = 100 ∨ r = 101 ∨ r = 102 ∨ r = 103 ∨ r = 104 by omega) with rfl | rfl | rfl | rfl | rfl | rfl | rfl | rfl <;> rfl
  · refine ⟨rfl, rfl, fun r h0 h1 => ?_, by omega, by omega, by omega, by omega, by omega⟩
    rcases (show r = 107 ∨ r = 108 by omega) with rfl | rfl <;> rfl
theorem zshr {o m N : Nat} {R : zRef} (ho : (o = 95 ∧ m = 8) ∨ (o = 105 ∧ m = 2)) (hW : zWir N R) (hN : 115 ≤ N) : R o 0 = some (o + 1) := by
  rcases ho with ⟨rfl, rfl⟩ | ⟨rfl, rfl⟩
  · exact hW 95 0 _ (by omega) rfl
  · exact hW 105 0 _ (by omega) rfl
set_option maxHeartbeats 4000000 in
set_option maxRecDepth 100000 in
theorem c_X6_clear {G : zG} {d n o m : Nat} {I : zMem} {R : zRef} (ho : (o = 95 ∧ m = 8) ∨ (o = 105 ∧ m = 2)) (hn : 115 ≤ n) : MT G mX6_clear d 0 0 [zR o] n I R (zP0 (fun I' R' => I' = zu I o 1 0 ∧ R' = R)) := by
  refine MT.of (by decide +kernel) tX6_clear_ok (Nat.le_of_ble_eq_true rfl) (fun hI0 => ?_)
  obtain ⟨hl0, hl1, hl2, hl3, hl4, hl5, hl6, hl7⟩ := zshl ho
  refine wp_ls (ls' := [some (zR o)]) rfl ?_
  refine wp_aload_n (t := 0) rfl rfl ?_
  refine wp_iconst (t := 1) rfl ?_
  refine wp_putI (t := 2) (ji := 1) rfl fX6_9 p6_1 rfl rfl (by omega) (by first | rfl | assumption) (by first | assumption | exact hI0 _ _ | exact zin_and _ _ | (unfold zin; omega) | (unfold zin at *; omega)) ?_
  refine wp_canon (fun hI1 => ?_)
  refine wp_return (t := 3) rfl rfl ?_
  exact ⟨rfl, rfl, rfl⟩
set_option maxHeartbeats 4000000 in
set_option maxRecDepth 100000 in
theorem c_X6_popInto {G : zG} {d n o m : Nat} {I : zMem} {R : zRef} {rho : Int → Nat} (ho : (o = 95 ∧ m = 8) ∨ (o = 105 ∧ m = 2)) (hW : zWir n R) (hn : 115 ≤ n) (hsh : zShf o m R rho) (hh : 0 ≤ I o 1 ∧ I o 1 ≤ m) : MT G mX6_popInto (d + 2) 0 0 [zR o, zR 64] n I R (zP1 (fun r I' R' => ((I o 1 < 1 ∧ r = 0 ∧ I' = I) ∨ (1 ≤ I o 1 ∧ r = 1 ∧ I' = zrd (zu I o 1 (I o 1 - 1)) 64 (rho (I o 1 - 1)))) ∧ R' = R)) := by
  refine MT.of (by decide +kernel) tX6_popInto_ok (Nat.le_of_ble_eq_true rfl) (fun hI0 => ?_)
  obtain ⟨hl0, hl1, hl2, hl3, hl4, hl5, hl6, hl7⟩ := zshl ho
  have hr0 := zshr ho hW hn
  have e1 : zu I o 1 (I o 1 - 1) o 1 = I o 1 - 1 := zu_eq
  refine wp_ls (ls' := [some (zR o), some (zR 64)]) rfl ?_
  refine wp_aload_n (t := 0) rfl rfl ?_
  refine wp_getI (t := 1) (ji := 1) rfl fX6_9 rfl rfl (by omega) (by first | rfl | assumption) ?_
  refine wp_iconst (t := 2) rfl ?_
  refine wp_icmp_ge (t := 3) (tgt := 10) rfl (by decide) (by first | assumption | exact hI0 _ _ | exact zin_and _ _ | (unfold zin; omega) | (unfold zin at *; omega)) (by first | assumption | exact hI0 _ _ | exact zin_and _ _ | (unfold zin; omega) | (unfold zin at *; omega)) (fun h5 => ?_) (fun h5 => ?_)
  · refine wp_aload_n (t := 6) rfl rfl ?_
    refine wp_dup (t := 7) rfl rfl ?_
    refine wp_getI (t := 8) (ji := 1) rfl fX6_9 rfl rfl (by omega) (by first | rfl | assumption) ?_
    refine wp_iconst (t := 9) rfl ?_
    refine wp_isub (t := 10) rfl ?_
    refine wp_putI (t := 11) (ji := 1) rfl fX6_9 p6_1 rfl rfl (by omega) (by first | rfl | assumption) (by first | assumption | exact hI0 _ _ | exact zin_and _ _ | (unfold zin; omega) | (unfold zin at *; omega)) ?_
    refine wp_canon (fun hI1 => ?_)
    have hrr := hsh.1 (I o 1 - 1) (by omega) (by omega)
    have hrr1 := hrr.1
    refine wp_aload_n (t := 12) rfl rfl ?_
    refine wp_aload_n (t := 13) rfl rfl ?_
    refine wp_getR (t := 14) (ji := 0) rfl fX6_23 rfl rfl (by omega) (by first | rfl | assumption) (by first | exact hW _ _ _ (by omega) rfl | assumption) ?_
    refine wp_aload_n (t := 15) rfl rfl ?_
    refine wp_getI (t := 16) (ji := 1) rfl fX6_9 rfl rfl (by omega) (by first | rfl | assumption) ?_
    rw [e1]
    refine wp_aaload (t := 17) rfl (by omega) (by first | rfl | assumption) (by omega) (by omega) (by omega) (by first | exact hW _ _ _ (by omega) rfl | assumption) ?_
    refine wp_vv (ci := 3) (c_X3_readFrom (d := d) (r := rho (I o 1 - 1)) (Or.inl rfl) hW hn (by omega) (hl2 _ hrr.2.1 hrr.2.2)) (t := 18) rfl kX6_32 rfl rfl (by omega) (by first | rfl | assumption) ⟨_, _, rfl⟩ (Nat.le_of_ble_eq_true rfl) ⟨Nat.le_refl _, Nat.le_refl _⟩ (fun I30 R30 c30 => ?_)
    refine wp_canon (fun hI2 => ?_)
    obtain ⟨rfl, rfl⟩ := c30
    refine wp_iconst (t := 19) rfl ?_
    refine wp_zreturn (t := 20) rfl rfl (by omega) ?_
    exact ⟨_, rfl, Or.inr ⟨by omega, rfl, rfl⟩, rfl⟩
  · refine wp_iconst (t := 4) rfl ?_
    refine wp_zreturn (t := 5) rfl rfl (by omega) ?_
    exact ⟨_, rfl, Or.inl ⟨by omega, rfl, rfl⟩, rfl⟩
/-- a row put on the shelf behind the others: where there is no room, the oldest goes -/
def zPush (o m : Nat) (I I' : zMem) (R' : zRef) (rho : Int → Nat) (r : Nat) : Prop := ∃ rho' : Int → Nat, zShf o m R' rho' ∧ I' o 1 = (if I o 1 < m then I o 1 else m - 1) + 1 ∧
  (∀ k j : Int, 0 ≤ k → k < (if I o 1 < m then I o 1 else m - 1) → I' (rho' k) j = I (rho (if I o 1 < m then k else k + 1)) j) ∧ (∀ j : Int, 0 ≤ j → j < 24 → I' (rho' (if I o 1 < m then I o 1 else m - 1)) j = I r j) ∧ (∀ b : Nat, (b < o ∨ o + 2 + m ≤ b) → I' b = I b)
set_option maxHeartbeats 4000000 in
set_option maxRecDepth 100000 in
theorem c_X6_push {G : zG} {d n o m : Nat} {I : zMem} {R : zRef} {rho : Int → Nat} (ho : (o = 95 ∧ m = 8) ∨ (o = 105 ∧ m = 2)) (hW : zWir n R) (hn : 115 ≤ n) (hsh : zShf o m R rho) (hh : 0 ≤ I o 1 ∧ I o 1 ≤ m) : MT G mX6_push (d + 1) 0 0 [zR o, zR 94] n I R (zP0 (fun I' R' => zPush o m I I' R' rho 94 ∧ zWir n R' ∧ ∀ b : Nat, b ≠ o + 1 → R' b = R b)) := by
  refine MT.of (by decide +kernel) tX6_push_ok (Nat.le_of_ble_eq_true rfl) (fun hI0 => ?_)
  obtain ⟨hl0, hl1, hl2, hl3, hl4, hl5, hl6, hl7⟩ := zshl ho
  obtain ⟨hsh1, hsh2⟩ := id hsh
  have hr0 := zshr ho hW hn
  have tail : ∀ (h : Int) (J : zMem) (R2 : zRef) (rho' : Int → Nat) (x2 x3 : Option zV), zWir n R2 → (∀ b : Nat, b ≠ o + 1 → R2 b = R b) → zShf o m R2 rho' → (∀ b : Nat, b ≠ o → J b = I b) → J o 1 = h → 0 ≤ h → h < m → h = (if I o 1 < m then I o 1 else m - 1) → (∀ k : Int, 0 ≤ k → k < h → rho' k = rho (if I o 1 < m then k else k + 1)) → WP G mX6_push (d + 1) 0 0 0 0 74 [some (zR o), some (zR 94), x2, x3] [] n J R2 (zP0 (fun I' R' => zPush o m I I' R' rho 94 ∧ zWir n R' ∧ ∀ b : Nat, b ≠ o + 1 → R' b = R b)) := by
    intro h J R2 rho' x2 x3 hW2 hR2 hs2 hJ hJ1 h0 h1 hh2 hk
    have hW := hW2
    have hr0 := zshr ho hW2 hn
    have hrr := hs2.1 h h0 h1
    have hrr1 := hrr.1
    have hl9 := hl2 _ hrr.2.1 hrr.2.2
    have ho9 : rho' h ≠ o := by omega
    refine wp_canon (fun hI0 => ?_)
    refine wp_aload_n (t := 46) rfl rfl ?_
    refine wp_alen (t := 47) rfl (by omega) (Or.inl rfl) rfl rfl ?_
    refine wp_bipush (t := 48) rfl (by decide) ?_
    refine wp_icmp_ge (t := 49) (tgt := 82) rfl (by decide) (by first | assumption | exact hI0 _ _ | exact zin_and _ _ | (unfold zin; omega) | (unfold zin at *; omega)) (by first | assumption | exact hI0 _ _ | exact zin_and _ _ | (unfold zin; omega) | (unfold zin at *; omega)) (fun h78 => ?_) (fun h78 => ?_)
    · refine wp_aload_n (t := 51) rfl rfl ?_
      refine wp_iconst (t := 52) rfl ?_
      refine wp_aload_n (t := 53) rfl rfl ?_
      refine wp_getR (t := 54) (ji := 0) rfl fX6_23 rfl rfl (by omega) (by first | rfl | assumption) (by first | exact hW _ _ _ (by omega) rfl | assumption) ?_
      refine wp_aload_n (t := 55) rfl rfl ?_
      refine wp_getI (t := 56) (ji := 1) rfl fX6_9 rfl rfl (by omega) (by first | rfl | assumption) ?_
      rw [hJ1]
      refine wp_aaload (t := 57) rfl (by omega) (by first | rfl | assumption) (by omega) (by omega) (by omega) (by first | exact hW _ _ _ (by omega) rfl | assumption) ?_
      refine wp_iconst (t := 58) rfl ?_
      refine wp_bipush (t := 59) rfl (by decide) ?_
      refine wp_copy (t := 60) rfl (wsL_law_r26_l (List.mem_of_getElem? (i := 10) rfl)) (by omega) rfl (by omega) hl9 (by omega) (by omega) (by omega) (by omega) (by omega) (by decide) (by decide) (Nat.le_of_ble_eq_true rfl) ?_
      refine wp_canon (fun hI1 => ?_)
      refine wp_aload_n (t := 61) rfl rfl ?_
      refine wp_dup (t := 62) rfl rfl ?_
      refine wp_getI (t := 63) (ji := 1) rfl fX6_9 rfl rfl (by omega) (by first | rfl | assumption) ?_
      have ez : zcp J 94 0 (rho' h) 0 24 o 1 = h := by
        unfold zcp
        rw [if_neg (fun g => ho9 g.1.symm)]
        exact hJ1
      rw [ez]
      refine wp_iconst (t := 64) rfl ?_
      refine wp_iadd (t := 65) rfl ?_
      refine wp_putI (t := 66) (ji := 1) rfl fX6_9 p6_1 rfl rfl (by omega) (by first | rfl | assumption) (by first | assumption | exact hI1 _ _ | exact hI0 _ _ | exact zin_and _ _ | (unfold zin; omega) | (unfold zin at *; omega)) ?_
      refine wp_canon (fun hI2 => ?_)
      refine wp_return (t := 67) rfl rfl ?_
      refine ⟨rfl, ⟨rho', hs2, ?_, fun k j k0 k1 => ?_, fun j j0 j1 => ?_, fun b hb => ?_⟩, hW2, hR2⟩
      · rw [zu_eq, ← hh2]
      · rw [← hh2] at k1
        have hkk := hs2.1 k k0 (by omega)
        rw [zu_ne (by omega)]
        unfold zcp
        rw [if_neg (fun g => by have := hs2.2 k h k0 (by omega) h0 h1 g.1; omega), hJ _ (by omega), hk k k0 k1]
      · rw [← hh2, zu_ne ho9]
        unfold zcp
        rw [if_pos ⟨rfl, j0, by omega⟩, show (0 : Int) + (j - 0) = j by omega, hJ 94 (by omega)]
      · rw [zu_ne (by omega)]
        funext j
        unfold zcp
        rw [if_neg (fun g => by have := g.1; omega), hJ b (by omega)]
    · refine wp_return (t := 50) rfl rfl ?_
      exact absurd h78 (by decide)
  have loop : ∀ (k : Nat) (i : Int) (R2 : zRef), 1 ≤ i → i ≤ m → ((m : Int) - i).toNat = k → ¬ I o 1 < m → zWir n R2 → (∀ b : Nat, b ≠ o + 1 → R2 b = R b) → (∀ j : Int, 0 ≤ j → j < i - 1 → R2 (o + 1) j = some (rho (j + 1))) → (∀ j : Int, i - 1 ≤ j → j < m → R2 (o + 1) j = some (rho j)) → WP G mX6_push (d + 1) 0 0 0 0 21 [some (zR o), some (zR 94), some (zR (rho 0)), some (zI i)] [] n I R2 (zP0 (fun I' R' => zPush o m I I' R' rho 94 ∧ zWir n R' ∧ ∀ b : Nat, b ≠ o + 1 → R' b = R b)) := by
    intro k
    induction k with
    | zero =>
      intro i R2 i0 i1 hk hIm hW2 hR2 hj1 hj2
      have hW := hW2
      have hr0 := zshr ho hW2 hn
      have g0 := hsh1 0 (by omega) (by omega)
      have hl9 := hl2 _ g0.2.1 g0.2.2
      refine wp_iload_n (t := 13) rfl rfl ?_
      refine wp_aload_n (t := 14) rfl rfl ?_
      refine wp_getR (t := 15) (ji := 0) rfl fX6_23 rfl rfl (by omega) (by first | rfl | assumption) (by first | exact hW _ _ _ (by omega) rfl | assumption) ?_
      refine wp_alen (t := 16) rfl (by omega) (Or.inr rfl) (by first | rfl | assumption) rfl ?_
      refine wp_icmp_ge (t := 17) (tgt := 50) rfl (by decide) (by first | assumption | exact hI0 _ _ | exact zin_and _ _ | (unfold zin; omega) | (unfold zin at *; omega)) (by first | assumption | exact hI0 _ _ | exact zin_and _ _ | (unfold zin; omega) | (unfold zin at *; omega)) (fun h27 => ?_) (fun h27 => ?_)
      · refine wp_aload_n (t := 30) rfl rfl ?_
        refine wp_getR (t := 31) (ji := 0) rfl fX6_23 rfl rfl (by omega) (by first | rfl | assumption) (by first | exact hW _ _ _ (by omega) rfl | assumption) ?_
        refine wp_aload_n (t := 32) rfl rfl ?_
        refine wp_getR (t := 33) (ji := 0) rfl fX6_23 rfl rfl (by omega) (by first | rfl | assumption) (by first | exact hW _ _ _ (by omega) rfl | assumption) ?_
        refine wp_alen (t := 34) rfl (by omega) (Or.inr rfl) (by first | rfl | assumption) rfl ?_
        refine wp_iconst (t := 35) rfl ?_
        refine wp_isub (t := 36) rfl ?_
        refine wp_aload_n (t := 37) rfl rfl ?_
        refine wp_aastore (t := 38) rfl (by omega) (by first | rfl | assumption) (by omega) (by first | rfl | assumption) (by omega) (by omega) (by omega) ?_
        have hr0 : zur R2 (o + 1) ((m : Int) - 1) (some (rho 0)) o 0 = some (o + 1) := by rw [zur_ne (by omega)]; exact hr0
        refine wp_aload_n (t := 39) rfl rfl ?_
        refine wp_aload_n (t := 40) rfl rfl ?_
        refine wp_getR (t := 41) (ji := 0) rfl fX6_23 rfl rfl (by omega) (by first | rfl | assumption) (by first | exact hW _ _ _ (by omega) rfl | assumption) ?_
        refine wp_alen (t := 42) rfl (by omega) (Or.inr rfl) (by first | rfl | assumption) rfl ?_
        refine wp_iconst (t := 43) rfl ?_
        refine wp_isub (t := 44) rfl ?_
        refine wp_putI (t := 45) (ji := 1) rfl fX6_9 p6_1 rfl rfl (by omega) (by first | rfl | assumption) (by first | assumption | exact hI0 _ _ | exact zin_and _ _ | (unfold zin; omega) | (unfold zin at *; omega)) ?_
        refine wp_canon (fun hI1 => ?_)
        refine tail ((m : Int) - 1) _ (zur R2 (o + 1) ((m : Int) - 1) (some (rho 0))) (fun j => if j = (m : Int) - 1 then rho 0 else rho (j + 1)) _ _ (by rcases ho with ⟨rfl, rfl⟩ | ⟨rfl, rfl⟩; exact zWir_shelf hW2 (Or.inl rfl); exact zWir_shelf hW2 (Or.inr rfl)) (fun b hb => by rw [zur_ne hb]; exact hR2 b hb) ⟨fun j j0 j1 => ?_, fun j k j0 j1 k0 k1 hjk => ?_⟩ (fun b hb => zu_ne hb) zu_eq (by omega) (by omega) (by rw [if_neg hIm]) (fun j j0 j1 => by rw [if_neg hIm, if_neg (by omega)])
        · dsimp only
          by_cases e : j = (m : Int) - 1
          · rw [if_pos e, e, zur_eq]; exact ⟨rfl, g0.2⟩
          · rw [if_neg e, zur_canon_R (Or.inr e), hj1 j j0 (by omega)]
            exact ⟨rfl, (hsh1 (j + 1) (by omega) (by omega)).2⟩
        · have hjk : (if j = (m : Int) - 1 then rho 0 else rho (j + 1)) = (if k = (m : Int) - 1 then rho 0 else rho (k + 1)) := hjk
          by_cases e1 : j = (m : Int) - 1
          · by_cases e2 : k = (m : Int) - 1
            · omega
            · rw [if_pos e1, if_neg e2] at hjk
              have := hsh2 0 (k + 1) (by omega) (by omega) (by omega) (by omega) hjk
              omega
          · by_cases e2 : k = (m : Int) - 1
            · rw [if_neg e1, if_pos e2] at hjk
              have := hsh2 (j + 1) 0 (by omega) (by omega) (by omega) (by omega) hjk
              omega
            · rw [if_neg e1, if_neg e2] at hjk
              have := hsh2 (j + 1) (k + 1) (by omega) (by omega) (by omega) (by omega) hjk
              omega
      · exact absurd h27 (by omega)
    | succ k ih =>
      intro i R2 i0 i1 hk hIm hW2 hR2 hj1 hj2
      have hW := hW2
      have hr0 := zshr ho hW2 hn
      have hji := hj2 i (by omega)
      refine wp_iload_n (t := 13) rfl rfl ?_
      refine wp_aload_n (t := 14) rfl rfl ?_
      refine wp_getR (t := 15) (ji := 0) rfl fX6_23 rfl rfl (by omega) (by first | rfl | assumption) (by first | exact hW _ _ _ (by omega) rfl | assumption) ?_
      refine wp_alen (t := 16) rfl (by omega) (Or.inr rfl) (by first | rfl | assumption) rfl ?_
      refine wp_icmp_ge (t := 17) (tgt := 50) rfl (by decide) (by first | assumption | exact hI0 _ _ | exact zin_and _ _ | (unfold zin; omega) | (unfold zin at *; omega)) (by first | assumption | exact hI0 _ _ | exact zin_and _ _ | (unfold zin; omega) | (unfold zin at *; omega)) (fun h27 => ?_) (fun h27 => ?_)
      · exact absurd h27 (by omega)
      · have hji := hji (by omega)
        have g0 := hsh1 i (by omega) (by omega)
        have hl9 := hl2 _ g0.2.1 g0.2.2
        refine wp_aload_n (t := 18) rfl rfl ?_
        refine wp_getR (t := 19) (ji := 0) rfl fX6_23 rfl rfl (by omega) (by first | rfl | assumption) (by first | exact hW _ _ _ (by omega) rfl | assumption) ?_
        refine wp_iload_n (t := 20) rfl rfl ?_
        refine wp_iconst (t := 21) rfl ?_
        refine wp_isub (t := 22) rfl ?_
        refine wp_aload_n (t := 23) rfl rfl ?_
        refine wp_getR (t := 24) (ji := 0) rfl fX6_23 rfl rfl (by omega) (by first | rfl | assumption) (by first | exact hW _ _ _ (by omega) rfl | assumption) ?_
        refine wp_iload_n (t := 25) rfl rfl ?_
        refine wp_aaload (t := 26) rfl (by omega) (by first | rfl | assumption) (by omega) (by omega) (by omega) (by first | exact hW _ _ _ (by omega) rfl | assumption) ?_
        refine wp_aastore (t := 27) rfl (by omega) (by first | rfl | assumption) (by omega) (by first | rfl | assumption) (by omega) (by omega) (by omega) ?_
        refine wp_iinc (t := 28) rfl rfl (by decide) rfl ?_
        refine wp_goto (t := 29) (tgt := 21) rfl (by decide) ?_
        refine ih (i + 1) (zur R2 (o + 1) (i - 1) (some (rho i))) (by omega) (by omega) (by omega) hIm (by rcases ho with ⟨rfl, rfl⟩ | ⟨rfl, rfl⟩; exact zWir_shelf hW2 (Or.inl rfl); exact zWir_shelf hW2 (Or.inr rfl)) (fun b hb => by rw [zur_ne hb]; exact hR2 b hb) (fun j j0 j1 => ?_) (fun j j0 j1 => ?_)
        · by_cases e : j = i - 1
          · rw [e, zur_eq, show i - 1 + 1 = i by omega]
          · rw [zur_canon_R (Or.inr e)]; exact hj1 j j0 (by omega)
        · rw [zur_canon_R (Or.inr (by omega))]; exact hj2 j (by omega) j1
  refine wp_ls (ls' := [some (zR o), some (zR 94), none, none]) rfl ?_
  have g0 := hsh1 0 (by omega) (by omega)
  have g01 := g0.1
  refine wp_aload_n (t := 0) rfl rfl ?_
  refine wp_getI (t := 1) (ji := 1) rfl fX6_9 rfl rfl (by omega) (by first | rfl | assumption) ?_
  refine wp_aload_n (t := 2) rfl rfl ?_
  refine wp_getR (t := 3) (ji := 0) rfl fX6_23 rfl rfl (by omega) (by first | rfl | assumption) (by first | exact hW _ _ _ (by omega) rfl | assumption) ?_
  refine wp_alen (t := 4) rfl (by omega) (Or.inr rfl) (by first | rfl | assumption) rfl ?_
  refine wp_icmp_lt (t := 5) (tgt := 74) rfl (by decide) (by first | assumption | exact hI0 _ _ | exact zin_and _ _ | (unfold zin; omega) | (unfold zin at *; omega)) (by first | assumption | exact hI0 _ _ | exact zin_and _ _ | (unfold zin; omega) | (unfold zin at *; omega)) (fun h9 => ?_) (fun h9 => ?_)
  · exact tail (I o 1) I R rho _ _ hW (fun _ _ => rfl) hsh (fun _ _ => rfl) rfl hh.1 (by omega) (by rw [if_pos (by omega)]) (fun k k0 k1 => by rw [if_pos (by omega)])
  · refine wp_aload_n (t := 6) rfl rfl ?_
    refine wp_getR (t := 7) (ji := 0) rfl fX6_23 rfl rfl (by omega) (by first | rfl | assumption) (by first | exact hW _ _ _ (by omega) rfl | assumption) ?_
    refine wp_iconst (t := 8) rfl ?_
    refine wp_aaload (t := 9) rfl (by omega) (by first | rfl | assumption) (by omega) (by omega) (by omega) (by first | exact hW _ _ _ (by omega) rfl | assumption) ?_
    refine wp_astore_n (t := 10) rfl (by decide) rfl ?_
    refine wp_iconst (t := 11) rfl ?_
    refine wp_istore_n (t := 12) rfl (by decide) rfl ?_
    exact loop _ 1 R (by omega) (by omega) rfl (by omega) hW (fun _ _ => rfl) (fun j j0 j1 => absurd j1 (by omega)) (fun j j0 j1 => (hsh1 j (by omega) j1).1)
/-- a plan with nothing put, under all rules but one -/
def zStart (I I' : zMem) (p : Nat) (lo : Int) : Prop := (∀ b : Nat, (b < p + 2 ∨ p + 5 < b) → I' b = I b) ∧ ∀ c : Int, 0 ≤ c → c < 6 → I' (p + 2) c = 0 ∧ I' (p + 3) c = 0 ∧ I' (p + 4) c = 0 ∧ (0 ≤ I' (p + 5) c ∧ I' (p + 5) c < 64) ∧ ∀ a : Int, 0 ≤ a → a < 6 → (zbt (I' (p + 5) c) a = true ↔ ∃ b : Int, 0 ≤ b ∧ b < I 34 3 ∧ b ≠ lo ∧ I 46 b = a ∧ I 47 b = c)
set_option maxHeartbeats 4000000 in
set_option maxRecDepth 100000 in
theorem c_X3_startOver {G : zG} {d n : Nat} {I : zMem} {R : zRef} {p : Nat} {lo : Int} (hp : p = 64 ∨ p = 86) (hW : zWir n R) (hn : 115 ≤ n) (hru : 0 ≤ I 34 3 ∧ I 34 3 ≤ 8) (hr : ∀ b : Int, 0 ≤ b → b < I 34 3 → 0 ≤ I 46 b ∧ I 46 b < 6 ∧ 0 ≤ I 47 b ∧ I 47 b < 6) (hlo : zin lo) : MT G mX3_startOver (d + 1) 0 0 [zR p, zI lo] n I R (zP0 (fun I' R' => zStart I I' p lo ∧ R' = R)) := by
  refine MT.of (by decide +kernel) tX3_startOver_ok (Nat.le_of_ble_eq_true rfl) (fun hI0 => ?_)
  obtain ⟨hl0, hl1, hl2, hl3, hl4, hl5, hp1⟩ := zpl hp
  obtain ⟨hr0, hr1, hr2, hr3, hr4, hr5⟩ := zpr hp hW hn
  have second : ∀ (k : Nat) (b : Int) (J : zMem), 0 ≤ b → b ≤ I 34 3 → (I 34 3 - b).toNat = k → (∀ x : Nat, (x < p + 2 ∨ p + 5 < x) → J x = I x) → (∀ c : Int, 0 ≤ c → c < 6 → J (p + 2) c = 0 ∧ J (p + 3) c = 0 ∧ J (p + 4) c = 0 ∧ (0 ≤ J (p + 5) c ∧ J (p + 5) c < 64) ∧ ∀ a : Int, 0 ≤ a → a < 6 → (zbt (J (p + 5) c) a = true ↔ ∃ x : Int, 0 ≤ x ∧ x < b ∧ x ≠ lo ∧ I 46 x = a ∧ I 47 x = c)) → WP G mX3_startOver (d + 1) 0 0 0 0 28 [some (zR p), some (zI lo), some (zI b)] [] n J R (zP0 (fun I' R' => zStart I I' p lo ∧ R' = R)) := by
    intro k
    induction k with
    | zero =>
      intro b J b0 b1 hk hf hs
      have e34 : J 34 = I 34 := hf 34 (by omega)
      refine wp_canon (fun hI0 => ?_)
      refine wp_iload_n (t := 17) rfl rfl ?_
      refine wp_aload_n (t := 18) rfl rfl ?_
      refine wp_getR (t := 19) (ji := 0) rfl fX3_27 rfl rfl (by omega) (by first | rfl | assumption) (by first | exact hW _ _ _ (by omega) rfl | assumption) ?_
      refine wp_getI (t := 20) (ji := 3) rfl fX3_35 rfl rfl (by omega) (by first | rfl | assumption) ?_
      rw [e34]
      refine wp_icmp_ge (t := 21) (tgt := 78) rfl (by decide) (by first | assumption | exact hI0 _ _ | exact zin_and _ _ | (unfold zin; omega) | (unfold zin at *; omega)) (by first | assumption | exact hI0 _ _ | exact zin_and _ _ | (unfold zin; omega) | (unfold zin at *; omega)) (fun h36 => ?_) (fun h36 => ?_)
      · refine wp_return (t := 45) rfl rfl ?_
        refine ⟨rfl, ⟨hf, fun c c0 c1 => ?_⟩, rfl⟩
        have g := hs c c0 c1
        rw [show b = I 34 3 by omega] at g
        exact g
      · exact absurd h36 (by omega)
    | succ k ih =>
      intro b J b0 b1 hk hf hs
      have e34 : J 34 = I 34 := hf 34 (by omega)
      have e46 : J 46 = I 46 := hf 46 (by omega)
      have e47 : J 47 = I 47 := hf 47 (by omega)
      refine wp_canon (fun hI0 => ?_)
      refine wp_iload_n (t := 17) rfl rfl ?_
      refine wp_aload_n (t := 18) rfl rfl ?_
      refine wp_getR (t := 19) (ji := 0) rfl fX3_27 rfl rfl (by omega) (by first | rfl | assumption) (by first | exact hW _ _ _ (by omega) rfl | assumption) ?_
      refine wp_getI (t := 20) (ji := 3) rfl fX3_35 rfl rfl (by omega) (by first | rfl | assumption) ?_
      rw [e34]
      refine wp_icmp_ge (t := 21) (tgt := 78) rfl (by decide) (by first | assumption | exact hI0 _ _ | exact zin_and _ _ | (unfold zin; omega) | (unfold zin at *; omega)) (by first | assumption | exact hI0 _ _ | exact zin_and _ _ | (unfold zin; omega) | (unfold zin at *; omega)) (fun h36 => ?_) (fun h36 => ?_)
      · exact absurd h36 (by omega)
      · refine wp_iload_n (t := 22) rfl rfl ?_
        refine wp_iload_n (t := 23) rfl rfl ?_
        refine wp_icmp_eq (t := 24) (tgt := 72) rfl (by decide) (by first | assumption | exact hI0 _ _ | exact zin_and _ _ | (unfold zin; omega) | (unfold zin at *; omega)) (by first | assumption | exact hI0 _ _ | exact zin_and _ _ | (unfold zin; omega) | (unfold zin at *; omega)) (fun h41 => ?_) (fun h41 => ?_)
        · refine wp_iinc (t := 43) rfl rfl (by decide) rfl ?_
          refine wp_goto (t := 44) (tgt := 28) rfl (by decide) ?_
          refine ih (b + 1) J (by omega) (by omega) (by omega) hf (fun c c0 c1 => ?_)
          have g := hs c c0 c1
          refine ⟨g.1, g.2.1, g.2.2.1, g.2.2.2.1, fun a a0 a1 => (g.2.2.2.2 a a0 a1).trans ⟨fun ⟨x, x0, x1, x2, x3⟩ => ⟨x, x0, by omega, x2, x3⟩, fun ⟨x, x0, x1, x2, x3⟩ => ⟨x, x0, by omega, x2, x3⟩⟩⟩
        · refine wp_aload_n (t := 25) rfl rfl ?_
          refine wp_getR (t := 26) (ji := 5) rfl fX3_24 rfl rfl (by omega) (by first | rfl | assumption) (by first | exact hW _ _ _ (by omega) rfl | assumption) ?_
          refine wp_aload_n (t := 27) rfl rfl ?_
          refine wp_getR (t := 28) (ji := 0) rfl fX3_27 rfl rfl (by omega) (by first | rfl | assumption) (by first | exact hW _ _ _ (by omega) rfl | assumption) ?_
          refine wp_getR (t := 29) (ji := 10) rfl fX3_41 rfl rfl (by omega) (by first | rfl | assumption) (by first | exact hW _ _ _ (by omega) rfl | assumption) ?_
          refine wp_iload_n (t := 30) rfl rfl ?_
          refine wp_iaload (t := 31) rfl (by omega) (by first | rfl | assumption) (by omega) (by omega) (by omega) ?_
          rw [e47]
          have hrb := hr b b0 (by omega)
          have hsb := hs (I 47 b) (by omega) (by omega)
          have hset := zbt_set (x := J (p + 5) (I 47 b)) (a := I 46 b) hsb.2.2.2.1 (by omega)
          refine wp_dup2 (t := 32) rfl rfl rfl ?_
          refine wp_iaload (t := 33) rfl (by omega) (by first | rfl | assumption) (by omega) (by omega) (by omega) ?_
          refine wp_iconst (t := 34) rfl ?_
          refine wp_aload_n (t := 35) rfl rfl ?_
          refine wp_getR (t := 36) (ji := 0) rfl fX3_27 rfl rfl (by omega) (by first | rfl | assumption) (by first | exact hW _ _ _ (by omega) rfl | assumption) ?_
          refine wp_getR (t := 37) (ji := 9) rfl fX3_44 rfl rfl (by omega) (by first | rfl | assumption) (by first | exact hW _ _ _ (by omega) rfl | assumption) ?_
          refine wp_iload_n (t := 38) rfl rfl ?_
          refine wp_iaload (t := 39) rfl (by omega) (by first | rfl | assumption) (by omega) (by omega) (by omega) ?_
          rw [e46]
          refine wp_ishl (t := 40) rfl ?_
          refine wp_ior (t := 41) rfl ?_
          refine wp_iastore (t := 42) rfl (by omega) (by first | rfl | assumption) (by omega) (by omega) (by omega) (zin_or _ _) ?_
          refine wp_canon (fun hI1 => ?_)
          refine wp_iinc (t := 43) rfl rfl (by decide) rfl ?_
          refine wp_goto (t := 44) (tgt := 28) rfl (by decide) ?_
          refine ih (b + 1) _ (by omega) (by omega) (by omega) (fun x hx => by rw [zu_ne (by omega)]; exact hf x hx) (fun c c0 c1 => ?_)
          have g := hs c c0 c1
          rw [zu_na (by omega), zu_na (by omega), zu_na (by omega)]
          by_cases e : c = I 47 b
          · rw [e, zu_eq]
            rw [← e] at hset ⊢
            refine ⟨g.1, g.2.1, g.2.2.1, hset.1, fun a a0 a1 => ?_⟩
            rw [hset.2 a a0 a1, Bool.or_eq_true, g.2.2.2.2 a a0 a1, decide_eq_true_iff]
            constructor
            · rintro (⟨x, x0, x1, x2, x3, x4⟩ | rfl)
              · exact ⟨x, x0, by omega, x2, x3, x4⟩
              · exact ⟨b, b0, by omega, h41, rfl, e.symm⟩
            · rintro ⟨x, x0, x1, x2, x3, x4⟩
              by_cases hx : x = b
              · exact Or.inr (by rw [← x3, hx])
              · exact Or.inl ⟨x, x0, by omega, x2, x3, x4⟩
          · rw [zu_ni e]
            refine ⟨g.1, g.2.1, g.2.2.1, g.2.2.2.1, fun a a0 a1 => (g.2.2.2.2 a a0 a1).trans ⟨fun ⟨x, x0, x1, x2, x3⟩ => ⟨x, x0, by omega, x2, x3⟩, fun ⟨x, x0, x1, x2, x3, x4⟩ => ⟨x, x0, ?_, x2, x3, x4⟩⟩⟩
            by_cases hx : x = b
            · rw [hx] at x4; exact absurd x4.symm e
            · omega
  have first : ∀ (k : Nat) (i : Int) (J : zMem), 0 ≤ i → i ≤ 6 → (6 - i).toNat = k → (∀ x : Nat, (x < p + 2 ∨ p + 5 < x) → J x = I x) → (∀ c : Int, 0 ≤ c → c < i → J (p + 2) c = 0 ∧ J (p + 3) c = 0 ∧ J (p + 4) c = 0 ∧ J (p + 5) c = 0) → WP G mX3_startOver (d + 1) 0 0 0 0 2 [some (zR p), some (zI lo), some (zI i)] [] n J R (zP0 (fun I' R' => zStart I I' p lo ∧ R' = R)) := by
    intro k
    induction k with
    | zero =>
      intro i J i0 i1 hk hf hz
      refine wp_canon (fun hI0 => ?_)
      refine wp_iload_n (t := 2) rfl rfl ?_
      refine wp_bipush (t := 3) rfl (by decide) ?_
      refine wp_icmp_ge (t := 4) (tgt := 26) rfl (by decide) (by first | assumption | exact hI0 _ _ | exact zin_and _ _ | (unfold zin; omega) | (unfold zin at *; omega)) (by first | assumption | exact hI0 _ _ | exact zin_and _ _ | (unfold zin; omega) | (unfold zin at *; omega)) (fun h5 => ?_) (fun h5 => ?_)
      · refine wp_iconst (t := 15) rfl ?_
        refine wp_istore_n (t := 16) rfl (by decide) rfl ?_
        refine second _ 0 J (by omega) (by omega) rfl hf (fun c c0 c1 => ?_)
        have g := hz c c0 (by omega)
        refine ⟨g.1, g.2.1, g.2.2.1, by omega, fun a a0 a1 => ?_⟩
        rw [g.2.2.2, zbt_zero a0 a1]
        exact ⟨fun h => (by cases h), fun ⟨x, x0, x1, _⟩ => absurd x1 (by omega)⟩
      · exact absurd h5 (by omega)
    | succ k ih =>
      intro i J i0 i1 hk hf hz
      refine wp_canon (fun hI0 => ?_)
      refine wp_iload_n (t := 2) rfl rfl ?_
      refine wp_bipush (t := 3) rfl (by decide) ?_
      refine wp_icmp_ge (t := 4) (tgt := 26) rfl (by decide) (by first | assumption | exact hI0 _ _ | exact zin_and _ _ | (unfold zin; omega) | (unfold zin at *; omega)) (by first | assumption | exact hI0 _ _ | exact zin_and _ _ | (unfold zin; omega) | (unfold zin at *; omega)) (fun h5 => ?_) (fun h5 => ?_)
      · refine wp_iconst (t := 15) rfl ?_
        refine wp_istore_n (t := 16) rfl (by decide) rfl ?_
        exact absurd h5 (by omega)
      · refine wp_aload_n (t := 5) rfl rfl ?_
        refine wp_iload_n (t := 6) rfl rfl ?_
        refine wp_vv (ci := 3) (c_X3_takeOff (d := d) hp hW hn ⟨i0, by omega⟩) (t := 7) rfl kX3_31 rfl rfl (by omega) (by first | rfl | assumption) ⟨_, _, rfl⟩ (Nat.le_of_ble_eq_true rfl) ⟨Nat.le_refl _, Nat.le_refl _⟩ (fun I10 R10 c10 => ?_)
        refine wp_canon (fun hI1 => ?_)
        obtain ⟨rfl, rfl⟩ := c10
        refine wp_aload_n (t := 8) rfl rfl ?_
        refine wp_getR (t := 9) (ji := 5) rfl fX3_24 rfl rfl (by omega) (by first | rfl | assumption) (by first | exact hW _ _ _ (by omega) rfl | assumption) ?_
        refine wp_iload_n (t := 10) rfl rfl ?_
        refine wp_iconst (t := 11) rfl ?_
        refine wp_iastore (t := 12) rfl (by omega) (by first | rfl | assumption) (by omega) (by omega) (by omega) (by first | assumption | exact hI1 _ _ | exact hI0 _ _ | exact zin_and _ _ | (unfold zin; omega) | (unfold zin at *; omega)) ?_
        refine wp_canon (fun hI2 => ?_)
        refine wp_iinc (t := 13) rfl rfl (by decide) rfl ?_
        refine wp_goto (t := 14) (tgt := 2) rfl (by decide) ?_
        refine ih (i + 1) _ (by omega) (by omega) (by omega) (fun x hx => by rw [zu_ne (by omega), zu_ne (by omega), zu_ne (by omega), zu_ne (by omega)]; exact hf x hx) (fun c c0 c1 => ?_)
        obtain ⟨q1, q2, q3, q4⟩ := zu3_eq (I := J) (p := p) (c := i) (w := 0) (t := 0) (u := 0)
        generalize zu (zu (zu J (p + 2) i 0) (p + 3) i 0) (p + 4) i 0 = J3 at q1 q2 q3 q4 ⊢
        rw [zu_na (by omega), zu_na (by omega), zu_na (by omega), q1, q2, q3]
        by_cases e : c = i
        · dsimp only
          rw [if_pos e, if_pos e, if_pos e, e, zu_eq]
          exact ⟨rfl, rfl, rfl, rfl⟩
        · have g := hz c c0 (by omega)
          dsimp only
          rw [if_neg e, if_neg e, if_neg e, zu_ni e, q4 _ (by omega) (by omega) (by omega)]
          exact g
  refine wp_ls (ls' := [some (zR p), some (zI lo), none]) rfl ?_
  refine wp_iconst (t := 0) rfl ?_
  refine wp_istore_n (t := 1) rfl (by decide) rfl ?_
  exact first _ 0 I (by omega) (by omega) rfl (fun _ _ => rfl) (fun c c0 c1 => absurd c1 (by omega))
