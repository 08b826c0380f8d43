/-! the class reads an item, and all -/
theorem pIok_w {T : Int → Int} {L p : Int} {S : pS} (h : pLet T L p = 119) : pIok T L S p ↔ (p = 0 ∧ ¬ (pLn T L p).1 = -4) := by
  constructor
  · rintro (q | q | q | q)
    · exact q.2
    · have := q.1; omega
    · have := q.1; omega
    · have := q.1; omega
  · exact fun q => Or.inl ⟨h, q⟩
theorem pIok_m {T : Int → Int} {L p : Int} {S : pS} (h : pLet T L p = 109) : pIok T L S p ↔ ¬ (pPw T L p).1 = -4 := by
  constructor
  · rintro (q | q | q | q)
    · have := q.1; omega
    · exact q.2
    · have := q.1; omega
    · have := q.1; omega
  · exact fun q => Or.inr (Or.inl ⟨h, q⟩)
theorem pIok_c {T : Int → Int} {L p : Int} {S : pS} (h : pLet T L p = 99) : pIok T L S p ↔ pCok T L S p := by
  constructor
  · rintro (q | q | q | q)
    · have := q.1; omega
    · have := q.1; omega
    · exact q.2
    · have := q.1; omega
  · exact fun q => Or.inr (Or.inr (Or.inl ⟨h, q⟩))
theorem pIok_b {T : Int → Int} {L p : Int} {S : pS} (h : pLet T L p = 98) : pIok T L S p ↔ pRok T L S p := by
  constructor
  · rintro (q | q | q | q)
    · have := q.1; omega
    · have := q.1; omega
    · have := q.1; omega
    · exact q.2
  · exact fun q => Or.inr (Or.inr (Or.inr ⟨h, q⟩))
theorem pIok_n {T : Int → Int} {L p : Int} {S : pS} (h1 : ¬ pLet T L p = 119) (h2 : ¬ pLet T L p = 109) (h3 : ¬ pLet T L p = 99) (h4 : ¬ pLet T L p = 98) : ¬ pIok T L S p := by
  rintro (q | q | q | q)
  · exact h1 q.1
  · exact h2 q.1
  · exact h3 q.1
  · exact h4 q.1
set_option maxHeartbeats 4000000 in
set_option maxRecDepth 100000 in
theorem c_X4_readItem {G : zG} {d n o : Nat} {I : zMem} {R : zRef} {S : pS} {p : Int} (ho : o = 4 ∨ o = 34) (hW : zWir n R) (hn : 115 ≤ n) (hlen : 0 ≤ I 1 1 ∧ I 1 1 ≤ 200) (hp : 0 ≤ p ∧ p < I 1 1) (hat : I 3 1 = p) (hr : cRd I o S) (hS : pGood S) : MT G mX4_readItem (d + 3) 0 0 [zR 3, zR o] n I R (zP1 (fun r I' R' => (r = (if pIok (I 2) (I 1 1) S p then 1 else 0) ∧ (¬ r = 0 → cRd I' o (pUp (I 2) (I 1 1) S p) ∧ I' 3 1 = pNx (I 2) (I 1 1) S p) ∧ cFr I I' o) ∧ R' = R)) := by
  refine MT.of (by decide +kernel) tX4_readItem_ok (Nat.le_of_ble_eq_true rfl) (fun hI0 => ?_)
  obtain ⟨l0, l1, l2, l3, l4, l5, l6, l7, l8, o1, o2⟩ := zco ho
  have sm : ∀ b : Nat, b ≠ 3 → zu I 3 1 (p + 1) b = I b := fun b hb => zu_ne hb
  have y1 : zu I 3 1 (p + 1) 1 = I 1 := sm 1 (by decide)
  have y2 : zu I 3 1 (p + 1) 2 = I 2 := sm 2 (by decide)
  have hr2 : cRd (zu I 3 1 (p + 1)) o S := cRd_ext (fun b b1 b2 => sm b (by omega)) hS hr
  have y3 : zu I 3 1 (p + 1) 3 1 = p + 1 := zu_eq
  have hlen2 : 0 ≤ zu I 3 1 (p + 1) 1 1 ∧ zu I 3 1 (p + 1) 1 1 ≤ 200 := by rw [y1]; exact hlen
  have fr2 : ∀ K, cFr (zu I 3 1 (p + 1)) K o → cFr I K o := fun K h b b1 b2 => (h b b1 b2).trans (sm b b1)
  refine wp_ls (ls' := [some (zR 3), some (zR o), none, none]) rfl ?_
  refine wp_aload_n (t := 0) rfl rfl ?_
  refine wp_getI (t := 1) (ji := 1) rfl fX4_9 rfl rfl (by omega) (by first | rfl | assumption) ?_
  rw [hat]
  refine wp_if_ne (t := 2) (tgt := 11) rfl (by decide) (by first | assumption | exact hI0 _ _ | exact zin_and _ _ | (unfold zin; omega) | (unfold zin at *; omega)) (fun h4 => ?_) (fun h4 => ?_)
  · refine wp_iconst (t := 5) rfl ?_
    refine wp_istore_n (t := 6) rfl (by decide) rfl ?_
    refine wp_aload_n (t := 7) rfl rfl ?_
    refine wp_getR (t := 8) (ji := 0) rfl fX4_15 rfl rfl (by omega) (by first | rfl | assumption) (by first | exact hW _ _ _ (by omega) rfl | assumption) ?_
    refine wp_aload_n (t := 9) rfl rfl ?_
    refine wp_getI (t := 10) (ji := 1) rfl fX4_9 rfl rfl (by omega) (by first | rfl | assumption) ?_
    rw [hat]
    refine wp_vi (ci := 8) (c_X8_letterAt (d := d + 2) hW hn (by unfold zin; omega) hlen) (t := 11) rfl kX4_33 rfl rfl (by omega) (by first | rfl | assumption) ⟨_, _, rfl⟩ (Nat.le_of_ble_eq_true rfl) ⟨Nat.le_refl _, Nat.le_refl _⟩ (fun r21 I21 R21 c21 => ?_)
    refine wp_canon (fun hI1 => ?_)
    obtain ⟨e21, zi21, zr21⟩ := c21
    have zi21 := zi21.symm
    subst zi21
    have zr21 := zr21.symm
    subst zr21
    have e21 : r21 = pLet (I 2) (I 1 1) p := e21
    have zb : zin r21 := by rw [e21]; unfold pLet; split; exact hI0 _ _; (unfold zin; omega)
    refine wp_istore_n (t := 12) rfl (by decide) rfl ?_
    refine wp_aload_n (t := 13) rfl rfl ?_
    refine wp_dup (t := 14) rfl rfl ?_
    refine wp_getI (t := 15) (ji := 1) rfl fX4_9 rfl rfl (by omega) (by first | rfl | assumption) ?_
    rw [hat]
    refine wp_iconst (t := 16) rfl ?_
    refine wp_iadd (t := 17) rfl ?_
    refine wp_putI (t := 18) (ji := 1) rfl fX4_9 p4_1 rfl rfl (by omega) (by first | rfl | assumption) (by first | assumption | exact hI1 _ _ | exact hI0 _ _ | exact zin_and _ _ | (unfold zin; omega) | (unfold zin at *; omega)) ?_
    refine wp_canon (fun hI2 => ?_)
    refine wp_iload_n (t := 19) rfl rfl ?_
    refine wp_top (fun y36 e36 => ?_)
    have z36 : zin y36 := (by rw [e36]; exact zb)
    rcases (show y36 = 98 ∨ y36 = 99 ∨ y36 = 109 ∨ y36 = 119 ∨ (¬ y36 = 98 ∧ ¬ y36 = 99 ∧ ¬ y36 = 109 ∧ ¬ y36 = 119) by omega) with h36 | h36 | h36 | h36 | h36
    · refine wp_look (t := 20) (off := 74) (tgt := 110) rfl z36 rfl (by rw [h36]; rfl) (by decide) ?_
      refine wp_aload_n (t := 39) rfl rfl ?_
      refine wp_aload_n (t := 40) rfl rfl ?_
      refine wp_vi (ci := 4) (c_X4_readRule (S := S) (p := p) (d := d) ho hW hn hlen2 ⟨by omega, by omega⟩ y3 hr2 hS) (t := 41) rfl kX4_46 rfl rfl (by omega) (by first | rfl | assumption) ⟨_, _, rfl⟩ (Nat.le_of_ble_eq_true rfl) ⟨Nat.le_refl _, Nat.le_refl _⟩ (fun r112 I112 R112 c112 => ?_)
      refine wp_canon (fun hI3 => ?_)
      obtain ⟨⟨e112, a112, f112⟩, zr112⟩ := c112
      have zr112 := zr112.symm
      subst zr112
      rw [y1, y2] at e112 a112
      have b112 : 0 ≤ r112 ∧ r112 ≤ 1 := by rw [e112]; split <;> omega
      refine wp_zreturn (t := 42) rfl rfl (by omega) ?_
      have el : pLet (I 2) (I 1 1) p = 98 := by omega
      refine ⟨_, rfl, ⟨e112.trans ?_, fun q => ?_, fr2 _ f112⟩, rfl⟩
      · by_cases k : pRok (I 2) (I 1 1) S p
        · rw [if_pos k, if_pos ((pIok_b el).mpr k)]
        · rw [if_neg k, if_neg (fun z => k ((pIok_b el).mp z))]
      · unfold pUp pNx
        rw [if_neg (by omega), if_neg (by omega), if_neg (by omega), if_neg (by omega), if_neg (by omega), if_neg (by omega)]
        exact a112 q
    · refine wp_look (t := 20) (off := 68) (tgt := 104) rfl z36 rfl (by rw [h36]; rfl) (by decide) ?_
      refine wp_aload_n (t := 35) rfl rfl ?_
      refine wp_aload_n (t := 36) rfl rfl ?_
      refine wp_vi (ci := 4) (c_X4_readCore (S := S) (p := p) (d := d) ho hW hn hlen2 ⟨by omega, by omega⟩ y3 hr2 hS) (t := 37) rfl kX4_43 rfl rfl (by omega) (by first | rfl | assumption) ⟨_, _, rfl⟩ (Nat.le_of_ble_eq_true rfl) ⟨Nat.le_refl _, Nat.le_refl _⟩ (fun r106 I106 R106 c106 => ?_)
      refine wp_canon (fun hI3 => ?_)
      obtain ⟨⟨e106, a106, f106⟩, zr106⟩ := c106
      have zr106 := zr106.symm
      subst zr106
      rw [y1, y2] at e106 a106
      have b106 : 0 ≤ r106 ∧ r106 ≤ 1 := by rw [e106]; split <;> omega
      refine wp_zreturn (t := 38) rfl rfl (by omega) ?_
      have el : pLet (I 2) (I 1 1) p = 99 := by omega
      refine ⟨_, rfl, ⟨e106.trans ?_, fun q => ?_, fr2 _ f106⟩, rfl⟩
      · by_cases k : pCok (I 2) (I 1 1) S p
        · rw [if_pos k, if_pos ((pIok_c el).mpr k)]
        · rw [if_neg k, if_neg (fun z => k ((pIok_c el).mp z))]
      · unfold pUp pNx
        rw [if_neg (by omega), if_neg (by omega), if_pos el, if_neg (by omega), if_neg (by omega), if_pos el]
        exact a106 q
    · refine wp_look (t := 20) (off := 62) (tgt := 98) rfl z36 rfl (by rw [h36]; rfl) (by decide) ?_
      refine wp_aload_n (t := 31) rfl rfl ?_
      refine wp_aload_n (t := 32) rfl rfl ?_
      refine wp_vi (ci := 4) (c_X4_readPower (S := S) (p := p) (d := d) ho hW hn hlen2 ⟨by omega, by omega⟩ y3 hr2 hS) (t := 33) rfl kX4_40 rfl rfl (by omega) (by first | rfl | assumption) ⟨_, _, rfl⟩ (Nat.le_of_ble_eq_true rfl) ⟨Nat.le_refl _, Nat.le_refl _⟩ (fun r100 I100 R100 c100 => ?_)
      refine wp_canon (fun hI3 => ?_)
      obtain ⟨⟨e100, a100, f100⟩, zr100⟩ := c100
      have zr100 := zr100.symm
      subst zr100
      rw [y1, y2] at e100 a100
      have b100 : 0 ≤ r100 ∧ r100 ≤ 1 := by rw [e100]; split <;> omega
      refine wp_zreturn (t := 34) rfl rfl (by omega) ?_
      have el : pLet (I 2) (I 1 1) p = 109 := by omega
      refine ⟨_, rfl, ⟨e100.trans ?_, fun q => ?_, fr2 _ f100⟩, rfl⟩
      · by_cases k : (pPw (I 2) (I 1 1) p).1 = -4
        · rw [if_neg (fun z => z k), if_neg (fun z => (pIok_m el).mp z k)]
        · rw [if_pos k, if_pos ((pIok_m el).mpr k)]
      · unfold pUp pNx
        rw [if_neg (by omega), if_pos el, if_neg (by omega), if_pos el]
        exact a100 q
    · refine wp_look (t := 20) (off := 44) (tgt := 80) rfl z36 rfl (by rw [h36]; rfl) (by decide) ?_
      refine wp_iload_n (t := 21) rfl rfl ?_
      refine wp_if_eq (t := 22) (tgt := 96) rfl (by decide) (by first | assumption | exact hI2 _ _ | exact hI1 _ _ | exact hI0 _ _ | exact zin_and _ _ | (unfold zin; omega) | (unfold zin at *; omega)) (fun h81 => ?_) (fun h81 => ?_)
      · refine wp_iconst (t := 29) rfl ?_
        refine wp_zreturn (t := 30) rfl rfl (by omega) ?_
        have el : pLet (I 2) (I 1 1) p = 119 := by omega
        exact ⟨_, rfl, ⟨(if_neg (fun k => by have := ((pIok_w el).mp k).1; omega)).symm, fun q => absurd rfl q, fun b b1 b2 => sm b b1⟩, rfl⟩
      · exact absurd h81 (by omega)
    · refine wp_look (t := 20) (off := 80) (tgt := 116) rfl z36 rfl (by simp [Op.lookupswitch.offset, h36]; repeat (rw [if_neg (by omega)])) (by decide) ?_
      refine wp_iconst (t := 43) rfl ?_
      refine wp_zreturn (t := 44) rfl rfl (by omega) ?_
      exact ⟨_, rfl, ⟨(if_neg (pIok_n (by omega) (by omega) (by omega) (by omega))).symm, fun q => absurd rfl q, fun b b1 b2 => sm b b1⟩, rfl⟩
  · refine wp_iconst (t := 3) rfl ?_
    refine wp_goto (t := 4) (tgt := 12) rfl (by decide) ?_
    refine wp_istore_n (t := 6) rfl (by decide) rfl ?_
    refine wp_aload_n (t := 7) rfl rfl ?_
    refine wp_getR (t := 8) (ji := 0) rfl fX4_15 rfl rfl (by omega) (by first | rfl | assumption) (by first | exact hW _ _ _ (by omega) rfl | assumption) ?_
    refine wp_aload_n (t := 9) rfl rfl ?_
    refine wp_getI (t := 10) (ji := 1) rfl fX4_9 rfl rfl (by omega) (by first | rfl | assumption) ?_
    rw [hat]
    refine wp_vi (ci := 8) (c_X8_letterAt (d := d + 2) hW hn (by unfold zin; omega) hlen) (t := 11) rfl kX4_33 rfl rfl (by omega) (by first | rfl | assumption) ⟨_, _, rfl⟩ (Nat.le_of_ble_eq_true rfl) ⟨Nat.le_refl _, Nat.le_refl _⟩ (fun r21 I21 R21 c21 => ?_)
    refine wp_canon (fun hI1 => ?_)
    obtain ⟨e21, zi21, zr21⟩ := c21
    have zi21 := zi21.symm
    subst zi21
    have zr21 := zr21.symm
    subst zr21
    have e21 : r21 = pLet (I 2) (I 1 1) p := e21
    have zb : zin r21 := by rw [e21]; unfold pLet; split; exact hI0 _ _; (unfold zin; omega)
    refine wp_istore_n (t := 12) rfl (by decide) rfl ?_
    refine wp_aload_n (t := 13) rfl rfl ?_
    refine wp_dup (t := 14) rfl rfl ?_
    refine wp_getI (t := 15) (ji := 1) rfl fX4_9 rfl rfl (by omega) (by first | rfl | assumption) ?_
    rw [hat]
    refine wp_iconst (t := 16) rfl ?_
    refine wp_iadd (t := 17) rfl ?_
    refine wp_putI (t := 18) (ji := 1) rfl fX4_9 p4_1 rfl rfl (by omega) (by first | rfl | assumption) (by first | assumption | exact hI1 _ _ | exact hI0 _ _ | exact zin_and _ _ | (unfold zin; omega) | (unfold zin at *; omega)) ?_
    refine wp_canon (fun hI2 => ?_)
    refine wp_iload_n (t := 19) rfl rfl ?_
    refine wp_top (fun y36 e36 => ?_)
    have z36 : zin y36 := (by rw [e36]; exact zb)
    rcases (show y36 = 98 ∨ y36 = 99 ∨ y36 = 109 ∨ y36 = 119 ∨ (¬ y36 = 98 ∧ ¬ y36 = 99 ∧ ¬ y36 = 109 ∧ ¬ y36 = 119) by omega) with h36 | h36 | h36 | h36 | h36
    · refine wp_look (t := 20) (off := 74) (tgt := 110) rfl z36 rfl (by rw [h36]; rfl) (by decide) ?_
      refine wp_aload_n (t := 39) rfl rfl ?_
      refine wp_aload_n (t := 40) rfl rfl ?_
      refine wp_vi (ci := 4) (c_X4_readRule (S := S) (p := p) (d := d) ho hW hn hlen2 ⟨by omega, by omega⟩ y3 hr2 hS) (t := 41) rfl kX4_46 rfl rfl (by omega) (by first | rfl | assumption) ⟨_, _, rfl⟩ (Nat.le_of_ble_eq_true rfl) ⟨Nat.le_refl _, Nat.le_refl _⟩ (fun r112 I112 R112 c112 => ?_)
      refine wp_canon (fun hI3 => ?_)
      obtain ⟨⟨e112, a112, f112⟩, zr112⟩ := c112
      have zr112 := zr112.symm
      subst zr112
      rw [y1, y2] at e112 a112
      have b112 : 0 ≤ r112 ∧ r112 ≤ 1 := by rw [e112]; split <;> omega
      refine wp_zreturn (t := 42) rfl rfl (by omega) ?_
      have el : pLet (I 2) (I 1 1) p = 98 := by omega
      refine ⟨_, rfl, ⟨e112.trans ?_, fun q => ?_, fr2 _ f112⟩, rfl⟩
      · by_cases k : pRok (I 2) (I 1 1) S p
        · rw [if_pos k, if_pos ((pIok_b el).mpr k)]
        · rw [if_neg k, if_neg (fun z => k ((pIok_b el).mp z))]
      · unfold pUp pNx
        rw [if_neg (by omega), if_neg (by omega), if_neg (by omega), if_neg (by omega), if_neg (by omega), if_neg (by omega)]
        exact a112 q
    · refine wp_look (t := 20) (off := 68) (tgt := 104) rfl z36 rfl (by rw [h36]; rfl) (by decide) ?_
      refine wp_aload_n (t := 35) rfl rfl ?_
      refine wp_aload_n (t := 36) rfl rfl ?_
      refine wp_vi (ci := 4) (c_X4_readCore (S := S) (p := p) (d := d) ho hW hn hlen2 ⟨by omega, by omega⟩ y3 hr2 hS) (t := 37) rfl kX4_43 rfl rfl (by omega) (by first | rfl | assumption) ⟨_, _, rfl⟩ (Nat.le_of_ble_eq_true rfl) ⟨Nat.le_refl _, Nat.le_refl _⟩ (fun r106 I106 R106 c106 => ?_)
      refine wp_canon (fun hI3 => ?_)
      obtain ⟨⟨e106, a106, f106⟩, zr106⟩ := c106
      have zr106 := zr106.symm
      subst zr106
      rw [y1, y2] at e106 a106
      have b106 : 0 ≤ r106 ∧ r106 ≤ 1 := by rw [e106]; split <;> omega
      refine wp_zreturn (t := 38) rfl rfl (by omega) ?_
      have el : pLet (I 2) (I 1 1) p = 99 := by omega
      refine ⟨_, rfl, ⟨e106.trans ?_, fun q => ?_, fr2 _ f106⟩, rfl⟩
      · by_cases k : pCok (I 2) (I 1 1) S p
        · rw [if_pos k, if_pos ((pIok_c el).mpr k)]
        · rw [if_neg k, if_neg (fun z => k ((pIok_c el).mp z))]
      · unfold pUp pNx
        rw [if_neg (by omega), if_neg (by omega), if_pos el, if_neg (by omega), if_neg (by omega), if_pos el]
        exact a106 q
    · refine wp_look (t := 20) (off := 62) (tgt := 98) rfl z36 rfl (by rw [h36]; rfl) (by decide) ?_
      refine wp_aload_n (t := 31) rfl rfl ?_
      refine wp_aload_n (t := 32) rfl rfl ?_
      refine wp_vi (ci := 4) (c_X4_readPower (S := S) (p := p) (d := d) ho hW hn hlen2 ⟨by omega, by omega⟩ y3 hr2 hS) (t := 33) rfl kX4_40 rfl rfl (by omega) (by first | rfl | assumption) ⟨_, _, rfl⟩ (Nat.le_of_ble_eq_true rfl) ⟨Nat.le_refl _, Nat.le_refl _⟩ (fun r100 I100 R100 c100 => ?_)
      refine wp_canon (fun hI3 => ?_)
      obtain ⟨⟨e100, a100, f100⟩, zr100⟩ := c100
      have zr100 := zr100.symm
      subst zr100
      rw [y1, y2] at e100 a100
      have b100 : 0 ≤ r100 ∧ r100 ≤ 1 := by rw [e100]; split <;> omega
      refine wp_zreturn (t := 34) rfl rfl (by omega) ?_
      have el : pLet (I 2) (I 1 1) p = 109 := by omega
      refine ⟨_, rfl, ⟨e100.trans ?_, fun q => ?_, fr2 _ f100⟩, rfl⟩
      · by_cases k : (pPw (I 2) (I 1 1) p).1 = -4
        · rw [if_neg (fun z => z k), if_neg (fun z => (pIok_m el).mp z k)]
        · rw [if_pos k, if_pos ((pIok_m el).mpr k)]
      · unfold pUp pNx
        rw [if_neg (by omega), if_pos el, if_neg (by omega), if_pos el]
        exact a100 q
    · refine wp_look (t := 20) (off := 44) (tgt := 80) rfl z36 rfl (by rw [h36]; rfl) (by decide) ?_
      refine wp_iload_n (t := 21) rfl rfl ?_
      refine wp_if_eq (t := 22) (tgt := 96) rfl (by decide) (by first | assumption | exact hI2 _ _ | exact hI1 _ _ | exact hI0 _ _ | exact zin_and _ _ | (unfold zin; omega) | (unfold zin at *; omega)) (fun h81 => ?_) (fun h81 => ?_)
      · exact absurd h81 (by omega)
      · refine wp_aload_n (t := 23) rfl rfl ?_
        refine wp_aload_n (t := 24) rfl rfl ?_
        refine wp_vi (ci := 4) (c_X4_readLines (S := S) (p := p) (d := d) ho hW hn hlen2 ⟨by omega, by omega⟩ y3 hr2 hS) (t := 25) rfl kX4_37 rfl rfl (by omega) (by first | rfl | assumption) ⟨_, _, rfl⟩ (Nat.le_of_ble_eq_true rfl) ⟨Nat.le_refl _, Nat.le_refl _⟩ (fun r86 I86 R86 c86 => ?_)
        refine wp_canon (fun hI3 => ?_)
        obtain ⟨⟨e86, a86, f86⟩, zr86⟩ := c86
        have zr86 := zr86.symm
        subst zr86
        rw [y1, y2] at e86 a86
        have b86 : 0 ≤ r86 ∧ r86 ≤ 1 := by rw [e86]; split <;> omega
        refine wp_if_eq (t := 26) (tgt := 96) rfl (by decide) (by first | assumption | exact hI3 _ _ | exact hI2 _ _ | exact hI1 _ _ | exact hI0 _ _ | exact zin_and _ _ | (unfold zin; omega) | (unfold zin at *; omega)) (fun h89 => ?_) (fun h89 => ?_)
        · refine wp_iconst (t := 29) rfl ?_
          refine wp_zreturn (t := 30) rfl rfl (by omega) ?_
          have el : pLet (I 2) (I 1 1) p = 119 := by omega
          refine ⟨_, rfl, ⟨(if_neg (fun k => ?_)).symm, fun q => absurd rfl q, fr2 _ f86⟩, rfl⟩
          rw [if_pos ((pIok_w el).mp k).2] at e86
          omega
        · refine wp_iconst (t := 27) rfl ?_
          refine wp_goto (t := 28) (tgt := 97) rfl (by decide) ?_
          refine wp_zreturn (t := 30) rfl rfl (by omega) ?_
          have el : pLet (I 2) (I 1 1) p = 119 := by omega
          have kk : ¬ (pLn (I 2) (I 1 1) p).1 = -4 := Classical.byContradiction (fun k => by rw [if_neg k] at e86; omega)
          refine ⟨_, rfl, ⟨(if_pos ((pIok_w el).mpr ⟨by omega, kk⟩)).symm, fun q => ?_, fr2 _ f86⟩, rfl⟩
          unfold pUp pNx
          rw [if_pos el, if_pos el]
          exact a86 (by omega)
    · refine wp_look (t := 20) (off := 80) (tgt := 116) rfl z36 rfl (by simp [Op.lookupswitch.offset, h36]; repeat (rw [if_neg (by omega)])) (by decide) ?_
      refine wp_iconst (t := 43) rfl ?_
      refine wp_zreturn (t := 44) rfl rfl (by omega) ?_
      exact ⟨_, rfl, ⟨(if_neg (pIok_n (by omega) (by omega) (by omega) (by omega))).symm, fun q => absurd rfl q, fun b b1 b2 => sm b b1⟩, rfl⟩
set_option maxHeartbeats 4000000 in
set_option maxRecDepth 100000 in
theorem c_X4_firstFault {G : zG} {d n o : Nat} {I : zMem} {R : zRef} (ho : o = 4 ∨ o = 34) (hW : zWir n R) (hn : 115 ≤ n) (hlen : 0 ≤ I 1 1 ∧ I 1 1 ≤ 200) : MT G mX4_firstFault (d + 4) 0 0 [zR 3, zR o] n I R (zP1 (fun r I' R' => (r = (pParse (I 2) (I 1 1) 200 pS0 0).1 ∧ (r = -4 ∨ (0 ≤ r ∧ r < 200)) ∧ (r = -4 → cRd I' o (pParse (I 2) (I 1 1) 200 pS0 0).2) ∧ cFr I I' o) ∧ R' = R)) := by
  refine MT.of (by decide +kernel) tX4_firstFault_ok (Nat.le_of_ble_eq_true rfl) (fun hI0 => ?_)
  obtain ⟨l0, l1, l2, l3, l4, l5, l6, l7, l8, o1, o2⟩ := zco ho
  have key : ∀ (f : Nat) (k : Int) (J : zMem) (S : pS) (p : Int) (x3 : Option zV), 0 ≤ k → k + f = 200 → J 3 1 = p → 0 ≤ p → cRd J o S → pGood S → cFr I J o → WP G mX4_firstFault (d + 4) 0 0 0 0 11 [some (zR 3), some (zR o), some (zI k), x3] [] n J R (zP1 (fun r I' R' => (r = (pParse (I 2) (I 1 1) f S p).1 ∧ (r = -4 ∨ (0 ≤ r ∧ r < 200)) ∧ (r = -4 → cRd I' o (pParse (I 2) (I 1 1) f S p).2) ∧ cFr I I' o) ∧ R' = R)) := by
    intro f
    induction f with
    | zero =>
      intro k J S p x3 h0 hf hp p0 hr hS fr
      refine wp_iload_n (t := 7) rfl rfl ?_
      refine wp_sipush (t := 8) rfl (by decide) ?_
      refine wp_icmp_ge (t := 9) (tgt := 53) rfl (by decide) (by first | assumption | exact hI0 _ _ | exact zin_and _ _ | (unfold zin; omega) | (unfold zin at *; omega)) (by first | assumption | exact hI0 _ _ | exact zin_and _ _ | (unfold zin; omega) | (unfold zin at *; omega)) (fun h15 => ?_) (fun h15 => ?_)
      · refine wp_bipush (t := 27) rfl (by decide) ?_
        refine wp_ireturn (t := 28) rfl rfl ?_
        exact ⟨_, rfl, ⟨rfl, Or.inl rfl, fun _ => hr, fr⟩, rfl⟩
      · exact absurd h15 (by omega)
    | succ f ih =>
      intro k J S p x3 h0 hf hp p0 hr hS fr
      have y1 : J 1 = I 1 := fr 1 (by decide) (by omega)
      have y2 : J 2 = I 2 := fr 2 (by decide) (by omega)
      have e1 : J 1 1 = I 1 1 := by rw [y1]
      have hu : pParse (I 2) (I 1 1) (f + 1) S p = if I 1 1 ≤ p then ((-4 : Int), S) else if pIok (I 2) (I 1 1) S p then pParse (I 2) (I 1 1) f (pUp (I 2) (I 1 1) S p) (pNx (I 2) (I 1 1) S p) else (p, S) := rfl
      rw [hu]
      refine wp_canon (fun hI0 => ?_)
      refine wp_iload_n (t := 7) rfl rfl ?_
      refine wp_sipush (t := 8) rfl (by decide) ?_
      refine wp_icmp_ge (t := 9) (tgt := 53) rfl (by decide) (by first | assumption | exact hI0 _ _ | exact zin_and _ _ | (unfold zin; omega) | (unfold zin at *; omega)) (by first | assumption | exact hI0 _ _ | exact zin_and _ _ | (unfold zin; omega) | (unfold zin at *; omega)) (fun h15 => ?_) (fun h15 => ?_)
      · exact absurd h15 (by omega)
      · refine wp_aload_n (t := 10) rfl rfl ?_
        refine wp_getI (t := 11) (ji := 1) rfl fX4_9 rfl rfl (by omega) (by first | rfl | assumption) ?_
        rw [hp]
        refine wp_aload_n (t := 12) rfl rfl ?_
        refine wp_getR (t := 13) (ji := 0) rfl fX4_15 rfl rfl (by omega) (by first | rfl | assumption) (by first | exact hW _ _ _ (by omega) rfl | assumption) ?_
        refine wp_getI (t := 14) (ji := 1) rfl fX4_24 rfl rfl (by omega) (by first | rfl | assumption) ?_
        refine wp_icmp_ge (t := 15) (tgt := 53) rfl (by decide) (by rw [← hp]; exact hI0 _ _) (by first | assumption | exact hI0 _ _ | exact zin_and _ _ | (unfold zin; omega) | (unfold zin at *; omega)) (fun h29 => ?_) (fun h29 => ?_)
        · refine wp_bipush (t := 27) rfl (by decide) ?_
          refine wp_ireturn (t := 28) rfl rfl ?_
          rw [if_pos (by omega)]
          exact ⟨_, rfl, ⟨rfl, Or.inl rfl, fun _ => hr, fr⟩, rfl⟩
        · refine wp_aload_n (t := 16) rfl rfl ?_
          refine wp_getI (t := 17) (ji := 1) rfl fX4_9 rfl rfl (by omega) (by first | rfl | assumption) ?_
          rw [hp]
          refine wp_istore_n (t := 18) rfl (by decide) rfl ?_
          refine wp_aload_n (t := 19) rfl rfl ?_
          refine wp_aload_n (t := 20) rfl rfl ?_
          refine wp_vi (ci := 4) (c_X4_readItem (S := S) (p := p) (d := d) ho hW hn (by rw [e1]; exact hlen) ⟨p0, by omega⟩ hp hr hS) (t := 21) rfl kX4_29 rfl rfl (by omega) (by first | rfl | assumption) ⟨_, _, rfl⟩ (Nat.le_of_ble_eq_true rfl) ⟨Nat.le_refl _, Nat.le_refl _⟩ (fun r39 I39 R39 c39 => ?_)
          refine wp_canon (fun hI1 => ?_)
          obtain ⟨⟨e39, a39, f39⟩, zr39⟩ := c39
          have zr39 := zr39.symm
          subst zr39
          rw [y1, y2] at e39 a39
          have b39 : 0 ≤ r39 ∧ r39 ≤ 1 := by rw [e39]; split <;> omega
          have fr9 : cFr I I39 o := fun b b1 b2 => (f39 b b1 b2).trans (fr b b1 b2)
          refine wp_if_ne (t := 22) (tgt := 47) rfl (by decide) (by first | assumption | exact hI1 _ _ | exact hI0 _ _ | exact zin_and _ _ | (unfold zin; omega) | (unfold zin at *; omega)) (fun h42 => ?_) (fun h42 => ?_)
          · refine wp_iinc (t := 25) rfl rfl (by decide) rfl ?_
            refine wp_goto (t := 26) (tgt := 11) rfl (by decide) ?_
            have ok : pIok (I 2) (I 1 1) S p := Classical.byContradiction (fun k => by rw [if_neg k] at e39; omega)
            have ug := pUp_good hS ok
            have g := a39 h42
            rw [if_neg (by omega), if_pos ok]
            exact ih (k + 1) I39 _ _ _ (by omega) (by omega) g.2 (by omega) g.1 ug.1 fr9
          · refine wp_iload_n (t := 23) rfl rfl ?_
            refine wp_ireturn (t := 24) rfl rfl ?_
            have nk : ¬ pIok (I 2) (I 1 1) S p := fun k => by rw [if_pos k] at e39; omega
            rw [if_neg (by omega), if_neg nk]
            exact ⟨_, rfl, ⟨rfl, Or.inr ⟨p0, by omega⟩, fun q => absurd q (by show ¬ p = -4; omega), fr9⟩, rfl⟩
  refine wp_ls (ls' := [some (zR 3), some (zR o), none, none]) rfl ?_
  refine wp_aload_n (t := 0) rfl rfl ?_
  refine wp_vv (ci := 2) (c_X2_clear (d := d + 3) hn ho) (t := 1) rfl kX4_19 rfl rfl (by omega) (by first | rfl | assumption) ⟨_, _, rfl⟩ (Nat.le_of_ble_eq_true rfl) ⟨Nat.le_refl _, Nat.le_refl _⟩ (fun I1 R1 c1 => ?_)
  refine wp_canon (fun hI1 => ?_)
  obtain ⟨zi1, zr1⟩ := c1
  subst zi1
  have zr1 := zr1.symm
  subst zr1
  refine wp_aload_n (t := 2) rfl rfl ?_
  refine wp_iconst (t := 3) rfl ?_
  refine wp_putI (t := 4) (ji := 1) rfl fX4_9 p4_1 rfl rfl (by omega) (by first | rfl | assumption) (by first | assumption | exact hI1 _ _ | exact hI0 _ _ | exact zin_and _ _ | (unfold zin; omega) | (unfold zin at *; omega)) ?_
  refine wp_canon (fun hI2 => ?_)
  refine wp_iconst (t := 5) rfl ?_
  refine wp_istore_n (t := 6) rfl (by decide) rfl ?_
  refine key 200 0 _ pS0 0 none (by omega) (by omega) zu_eq (by omega) ⟨⟨?_, ?_, ?_, ?_⟩, fun c c0 c1 => absurd c1 (by show ¬ c < 0; omega), fun b b0 b1 => absurd b1 (by show ¬ b < 0; omega)⟩ pGood0 (fun b b1 b2 => by rw [zu_ne b1, zu_ne (by omega), zu_ne (by omega), zu_ne (by omega), zu_ne (by omega)])
  · rw [zu_ne (by omega), zu_ni (by decide), zu_ni (by decide), zu_ni (by decide), zu_eq]; rfl
  · rw [zu_ne (by omega), zu_ni (by decide), zu_ni (by decide), zu_eq]; rfl
  · rw [zu_ne (by omega), zu_ni (by decide), zu_eq]; rfl
  · rw [zu_ne (by omega), zu_eq]; rfl
