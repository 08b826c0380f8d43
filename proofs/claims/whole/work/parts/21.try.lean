theorem tLoop_succ {rec : zS → (Int → Int) → Int → tSt → tSt} {fl : Int} {S : zS} {o : Int → Int} {dp len : Int} {k : Nat} {st : tSt} {c : Int} (hc : sN S - ((k : Int) + 1) = c) : tLoop rec fl S o dp len (k + 1) st = if 0 < sW S c ∨ ¬ sWait S c = -4 then tLoop rec fl S o dp len k st
    else if st.1 ≤ len ∨ st.1 ≤ fl then st
    else if (sFl S c st.1 (sL S).toNat).1 = 0 then st
    else tLoop rec fl S o dp len k (rec (sPut S c (sFl S c st.1 (sL S).toNat).1 (sFl S c st.1 (sL S).toNat).2.1) (fun j => if j = dp then c else o j) (max len ((sFl S c st.1 (sL S).toNat).2.1 + sT S c (sFl S c st.1 (sL S).toNat).1)) st) := by
  subst hc
  rfl
/-- the search's cells as trying wants them -/
def tPre (I : zMem) (o bo : Int → Int) (dp pl len fl sl : Int) : Prop :=
  (∀ c a : Int, 0 ≤ c → c < I 34 2 → I 34 2 ≤ a → a < 6 → zbt (I 91 c) a = false) ∧ (∀ c : Int, 0 ≤ c → c < I 34 2 → ¬ 0 < I 88 c → I 88 c = 0 ∧ I 89 c = 0 ∧ I 90 c = 0) ∧
  ((0 ≤ pl ∧ pl < 64) ∧ ∀ c : Int, 0 ≤ c → c < I 34 2 → zbt pl c = decide (0 < I 88 c)) ∧ (∀ j : Int, 0 ≤ j → j < dp → I 73 j = o j) ∧ (∀ j : Int, 0 ≤ j → j < I 34 2 → I (75 + sl.toNat) j = bo j) ∧
  (I 72 7 = sl ∧ 0 ≤ sl ∧ sl < 9) ∧ I 72 9 = fl ∧ (0 ≤ I 72 8 ∧ I 72 8 ≤ 1000000) ∧ (0 ≤ len ∧ len ≤ 1000000) ∧ 0 ≤ dp
def tPost (I I' : zMem) (dp sl : Int) (r : tSt) : Prop := (I' 72 8 = r.1 ∧ 0 ≤ r.1 ∧ r.1 ≤ 1000000) ∧ (∀ j : Int, 0 ≤ j → j < I 34 2 → I' (75 + sl.toNat) j = r.2 j) ∧ (∀ j : Int, j ≠ 8 → I' 72 j = I 72 j) ∧ (∀ b : Nat, b ≠ 72 → b ≠ 73 → b ≠ 75 + sl.toNat → I' b = I b) ∧ ∀ j : Int, 0 ≤ j → j < dp → I' 73 j = I 73 j
theorem tPost_same {I J : zMem} {sl : Int} (hs : 0 ≤ sl ∧ sl < 9) (hf : ∀ b : Nat, b ≠ 72 → b ≠ 73 → b ≠ 75 + sl.toNat → J b = I b) (hch : zCh I) (hpl : zPl I 86) : cS J 86 = cS I 86 ∧ zCh J ∧ zPl J 86 := ⟨cS_ext (hf _ (by omega) (by omega) (by omega)) (hf _ (by omega) (by omega) (by omega)) (hf _ (by omega) (by omega) (by omega)) (fun b _ _ => hf b (by omega) (by omega) (by omega)) (hf _ (by omega) (by omega) (by omega)) (hf _ (by omega) (by omega) (by omega)) (hf _ (by omega) (by omega) (by omega)) (hf _ (by omega) (by omega) (by omega)) (hf _ (by omega) (by omega) (by omega)), zCh_ext (fun b _ _ => hf b (by omega) (by omega) (by omega)) hch, zPl_ext (hf _ (by omega) (by omega) (by omega)) (hf _ (by omega) (by omega) (by omega)) (hf _ (by omega) (by omega) (by omega)) (hf _ (by omega) (by omega) (by omega)) (hf _ (by omega) (by omega) (by omega)) (hf _ (by omega) (by omega) (by omega)) hpl⟩
theorem zput_b {I : zMem} {p : Nat} {c w t : Int} {b : Nat} (h2 : b ≠ p + 2) (h3 : b ≠ p + 3) (h4 : b ≠ p + 4) : zput I p c w t b = I b := by
  unfold zput
  rw [zu_ne h4, zu_ne h3, zu_ne h2]
theorem zput_Pl {I : zMem} {c w t : Int} (hpl : zPl I 86) (hc : 0 ≤ c ∧ c < I 34 2) (hw : 1 ≤ w ∧ w ≤ I 34 0) (ht : 0 ≤ t ∧ t ≤ 1000000) (hT : 0 ≤ sT (cS I 86) c w ∧ t + sT (cS I 86) c w ≤ 1010000) : zPl (zput I 86 c w t) 86 := by
  obtain ⟨q1, q2, q3, q4⟩ := zu3_eq (I := I) (p := 86) (c := c) (w := w) (t := t) (u := t + sT (cS I 86) c w)
  intro a a0 a1
  have e34 : zput I 86 c w t 34 = I 34 := zput_b (by decide) (by decide) (by decide)
  rw [e34] at a1 ⊢
  have g := hpl a a0 a1
  rw [zput_b (b := 86 + 1) (by decide) (by decide) (by decide), zput_b (b := 86 + 5) (by decide) (by decide) (by decide)]
  unfold zput
  rw [q1, q2, q3]
  dsimp only
  by_cases e : a = c
  · rw [if_pos e, if_pos e, if_pos e]
    exact ⟨g.1, ⟨by omega, hw.2⟩, ht, by omega, g.2.2.2.2⟩
  · rw [if_neg e, if_neg e, if_neg e]
    exact g
theorem tPre_step {I K : zMem} {o st2 : Int → Int} {dp pl len fl sl c w t u : Int} (hc9 : c < I 34 2) (c0 : 0 ≤ c) (hco : 1 ≤ I 34 2 ∧ I 34 2 ≤ 6) (p1 : ∀ c a : Int, 0 ≤ c → c < I 34 2 → I 34 2 ≤ a → a < 6 → zbt (I 91 c) a = false) (p2 : ∀ c : Int, 0 ≤ c → c < I 34 2 → ¬ 0 < I 88 c → I 88 c = 0 ∧ I 89 c = 0 ∧ I 90 c = 0)
    (p3 : (0 ≤ pl ∧ pl < 64) ∧ ∀ c : Int, 0 ≤ c → c < I 34 2 → zbt pl c = decide (0 < I 88 c)) (p4 : ∀ j : Int, 0 ≤ j → j < dp → I 73 j = o j) (hsl : 0 ≤ sl ∧ sl < 9) (k7 : K 72 7 = sl) (k9 : K 72 9 = fl) (k8 : 0 ≤ K 72 8 ∧ K 72 8 ≤ 1000000) (hlen : 0 ≤ len ∧ len ≤ 1000000) (hdp : 0 ≤ dp) (hw : 1 ≤ w) (k34 : K 34 = I 34) (k91 : K 91 = I 91) (k88 : K 88 = fun j => if j = c then w else I 88 j) (k89 : K 89 = fun j => if j = c then t else I 89 j) (k90 : K 90 = fun j => if j = c then u else I 90 j)
    (k73 : ∀ j : Int, 0 ≤ j → j < dp → K 73 j = I 73 j) (k73d : K 73 dp = c) (krow : ∀ j : Int, 0 ≤ j → j < I 34 2 → K (75 + sl.toNat) j = st2 j) : tPre K (fun j => if j = dp then c else o j) st2 (dp + 1) (zior pl (zishl 1 c)) len fl sl := by
  have hset := zbt_set (x := pl) (a := c) p3.1 (by omega)
  refine ⟨fun a b a0 a1 b0 b1 => ?_, fun a a0 a1 a2 => ?_, ⟨hset.1, fun a a0 a1 => ?_⟩, fun j j0 j1 => ?_, fun j j0 j1 => ?_, ⟨k7, hsl.1, hsl.2⟩, k9, k8, hlen, by omega⟩
  · rw [k34] at a1 b0
    rw [k91]
    exact p1 a b a0 a1 b0 b1
  · rw [k34] at a1
    rw [k88, k89, k90] at *
    dsimp only at a2 ⊢
    by_cases e : a = c
    · rw [if_pos e] at a2
      omega
    · rw [if_neg e] at a2
      rw [if_neg e, if_neg e, if_neg e]
      exact p2 a a0 a1 a2
  · rw [k34] at a1
    rw [hset.2 a a0 (by omega), k88, p3.2 a a0 a1]
    dsimp only
    by_cases e : a = c
    · rw [decide_eq_true e, Bool.or_true]
      exact (decide_eq_true (by rw [if_pos e]; omega)).symm
    · rw [decide_eq_false e, Bool.or_false]
      simp [e]
  · dsimp only
    by_cases e : j = dp
    · rw [if_pos e, e]
      exact k73d
    · rw [if_neg e, k73 j j0 (by omega)]
      exact p4 j j0 (by omega)
  · rw [k34] at j1
    exact krow j j0 j1
set_option maxHeartbeats 4000000 in
set_option maxRecDepth 100000 in
theorem c_X5_tryAll {G : zG} {n : Nat} {R : zRef} (hW : zWir n R) (hn : 115 ≤ n) : ∀ (f : Nat) (d : Nat) (I : zMem) (o bo : Int → Int) (dp pl len fl sl : Int), zCh I → zPl I 86 → dp + (f : Int) = I 34 2 → tPre I o bo dp pl len fl sl → MT G mX5_tryAll (d + f + 5) 0 0 [zR 72, zI dp, zI pl, zI len] n I R (zP0 (fun I' R' => tPost I I' dp sl (tTry fl f (cS I 86) o dp len (I 72 8, bo)) ∧ R' = R)) := by
  intro f
  induction f with
  | zero =>
    intro d I o bo dp pl len fl sl hch hpl hdf hpre
    refine MT.of (by decide +kernel) tX5_tryAll_ok (Nat.le_of_ble_eq_true rfl) (fun hI0 => ?_)
    obtain ⟨p1, p2, p3, p4, p5, ⟨p6, p6a, p6b⟩, p7, p8, p9, p10⟩ := hpre
    have hco := hch.1
    have hrow : R 74 sl = some (75 + sl.toNat) := zrowR (m := 9) hW (by omega) (by decide) p6a (by omega)
    have hlrow : zlay (75 + sl.toNat) = (20, 6) := zrowL (m := 9) (by decide) (by omega) p6a
    have e7 : zu I 72 8 len 72 7 = sl := by rw [zu_ni (by decide)]; exact p6
    refine wp_ls (ls' := [some (zR 72), some (zI dp), some (zI pl), some (zI len), none]) rfl ?_
    refine wp_iload_n (t := 0) rfl rfl ?_
    refine wp_aload_n (t := 1) rfl rfl ?_
    refine wp_getR (t := 2) (ji := 0) rfl fX5_37 rfl rfl (by omega) (by first | rfl | assumption) (by first | exact hW _ _ _ (by omega) rfl | assumption) ?_
    refine wp_getI (t := 3) (ji := 2) rfl fX5_57 rfl rfl (by omega) (by first | rfl | assumption) ?_
    refine wp_icmp_ge (t := 4) (tgt := 17) rfl (by decide) (by first | assumption | exact hI0 _ _ | exact zin_and _ _ | (unfold zin; omega) | (unfold zin at *; omega)) (by first | assumption | exact hI0 _ _ | exact zin_and _ _ | (unfold zin; omega) | (unfold zin at *; omega)) (fun h8 => ?_) (fun h8 => ?_)
    · refine wp_aload_n (t := 8) rfl rfl ?_
      refine wp_iload_n (t := 9) rfl rfl ?_
      refine wp_putI (t := 10) (ji := 8) rfl fX5_31 p5_8 rfl rfl (by omega) (by first | rfl | assumption) (by first | assumption | exact hI0 _ _ | exact zin_and _ _ | (unfold zin; omega) | (unfold zin at *; omega)) ?_
      refine wp_canon (fun hI1 => ?_)
      refine wp_aload_n (t := 11) rfl rfl ?_
      refine wp_getR (t := 12) (ji := 3) rfl fX5_9 rfl rfl (by omega) (by first | rfl | assumption) (by first | exact hW _ _ _ (by omega) rfl | assumption) ?_
      refine wp_iconst (t := 13) rfl ?_
      refine wp_aload_n (t := 14) rfl rfl ?_
      refine wp_getR (t := 15) (ji := 4) rfl fX5_17 rfl rfl (by omega) (by first | rfl | assumption) (by first | exact hW _ _ _ (by omega) rfl | assumption) ?_
      refine wp_aload_n (t := 16) rfl rfl ?_
      refine wp_getI (t := 17) (ji := 7) rfl fX5_26 rfl rfl (by omega) (by first | rfl | assumption) ?_
      rw [e7]
      refine wp_aaload (t := 18) rfl (by omega) (by first | rfl | assumption) (by omega) (by omega) (by omega) (by first | exact hW _ _ _ (by omega) rfl | assumption) ?_
      refine wp_iconst (t := 19) rfl ?_
      refine wp_bipush (t := 20) rfl (by decide) ?_
      refine wp_copy (t := 21) rfl (wsL_law_r36_l (List.mem_of_getElem? (i := 15) rfl)) (by omega) rfl (by omega) hlrow (by omega) (by omega) (by omega) (by omega) (by omega) (by decide) (by decide) (Nat.le_of_ble_eq_true rfl) ?_
      refine wp_canon (fun hI2 => ?_)
      refine wp_return (t := 22) rfl rfl ?_
      refine ⟨rfl, ⟨⟨?_, p9.1, p9.2⟩, fun j j0 j1 => ?_, fun j hj => ?_, fun b b1 b2 b3 => ?_, fun j j0 j1 => ?_⟩, rfl⟩
      · show zcp (zu I 72 8 len) 73 0 (75 + sl.toNat) 0 6 72 8 = len
        unfold zcp
        rw [if_neg (fun g => by have := g.1; omega), zu_eq]
      · show zcp (zu I 72 8 len) 73 0 (75 + sl.toNat) 0 6 (75 + sl.toNat) j = o j
        unfold zcp
        rw [if_pos ⟨rfl, j0, by omega⟩, zu_na (by decide), show (0 : Int) + (j - 0) = j by omega]
        exact p4 j j0 (by omega)
      · unfold zcp
        rw [if_neg (fun g => by have := g.1; omega), zu_ni hj]
      · funext j
        unfold zcp
        rw [if_neg (fun g => b3 g.1), zu_na b1]
      · unfold zcp
        rw [if_neg (fun g => by have := g.1; omega), zu_na (by decide)]
    · exact absurd h8 (by omega)
  | succ f ihf =>
    intro d I o bo dp pl len fl sl hch hpl hdf hpre
    rw [show d + (f + 1) + 5 = d + f + 6 by omega]
    refine MT.of (by decide +kernel) tX5_tryAll_ok (Nat.le_of_ble_eq_true rfl) (fun hI0 => ?_)
    obtain ⟨p1, p2, p3, p4, p5, ⟨p6, p6a, p6b⟩, p7, p8, p9, p10⟩ := hpre
    obtain ⟨f1, f2, f3, f4, f5, f6⟩ := cS_facts hch hpl
    have hco := hch.1
    have hli := hch.2.1
    have loop : ∀ (k : Nat) (c : Int) (J : zMem) (st : tSt), 0 ≤ c → c + (k : Int) = I 34 2 → (J 72 8 = st.1 ∧ 0 ≤ st.1 ∧ st.1 ≤ 1000000) → (∀ j : Int, 0 ≤ j → j < I 34 2 → J (75 + sl.toNat) j = st.2 j) → (∀ j : Int, j ≠ 8 → J 72 j = I 72 j) → (∀ b : Nat, b ≠ 72 → b ≠ 73 → b ≠ 75 + sl.toNat → J b = I b) → (∀ j : Int, 0 ≤ j → j < dp → J 73 j = I 73 j) →
        WP G mX5_tryAll (d + f + 6) 0 0 0 0 46 [some (zR 72), some (zI dp), some (zI pl), some (zI len), some (zI c)] [] n J R (zP0 (fun I' R' => tPost I I' dp sl (tLoop (fun S' o' len' st' => tTry fl f S' o' (dp + 1) len' st') fl (cS I 86) o dp len k st) ∧ R' = R)) := by
      intro k
      induction k with
      | zero =>
        intro c J st c0 hk j1 j2 j3 j4 j5
        have e34 : J 34 = I 34 := j4 34 (by decide) (by decide) (by omega)
        refine wp_canon (fun hI0 => ?_)
        refine wp_iload (t := 25) rfl rfl ?_
        refine wp_aload_n (t := 26) rfl rfl ?_
        refine wp_getR (t := 27) (ji := 0) rfl fX5_37 rfl rfl (by omega) (by first | rfl | assumption) (by first | exact hW _ _ _ (by omega) rfl | assumption) ?_
        refine wp_getI (t := 28) (ji := 2) rfl fX5_57 rfl rfl (by omega) (by first | rfl | assumption) ?_
        rw [e34]
        refine wp_icmp_ge (t := 29) (tgt := 175) rfl (by decide) (by first | assumption | exact hI0 _ _ | exact zin_and _ _ | (unfold zin; omega) | (unfold zin at *; omega)) (by first | assumption | exact hI0 _ _ | exact zin_and _ _ | (unfold zin; omega) | (unfold zin at *; omega)) (fun h55 => ?_) (fun h55 => ?_)
        · refine wp_return (t := 94) rfl rfl ?_
          exact ⟨rfl, ⟨j1, j2, j3, j4, j5⟩, rfl⟩
        · exact absurd h55 (by omega)
      | succ k ihk =>
        intro c J st c0 hk j1 j2 j3 j4 j5
        have e34 : J 34 = I 34 := j4 34 (by decide) (by decide) (by omega)
        have e91 : J 91 = I 91 := j4 91 (by decide) (by decide) (by omega)
        have e9 : J 72 9 = fl := (j3 9 (by decide)).trans p7
        have hc9 : c < I 34 2 := by omega
        obtain ⟨m1, m2, m3⟩ := tPost_same ⟨p6a, p6b⟩ j4 hch hpl
        have hpc := hpl c c0 hc9
        have hmask := p3.2 c c0 hc9
        have hah := zand_not (x := I 91 c) (y := pl) hpc.2.2.2.2 p3.1
        have hwait : (ziand (I 91 c) (zixor pl (-1)) = 0) ↔ sWait (cS I 86) c = -4 := by
          rw [hah, sWait_iff]
          constructor
          · intro h a a0 a1 a2
            have a1 : a < I 34 2 := a1
            have := h a a0 (by omega) a2
            rw [p3.2 a a0 a1] at this
            exact of_decide_eq_true this
          · intro h a a0 a1 a2
            by_cases ha : a < I 34 2
            · rw [p3.2 a a0 ha]
              exact decide_eq_true (h a a0 ha a2)
            · rw [p1 c a c0 hc9 (by omega) a1] at a2
              cases a2
        have hts := tLoop_succ (rec := fun S' o' len' st' => tTry fl f S' o' (dp + 1) len' st') (fl := fl) (S := cS I 86) (o := o) (dp := dp) (len := len) (k := k) (st := st) (c := c) (by show I 34 2 - ((k : Int) + 1) = c; omega)
        rw [hts]
        refine wp_canon (fun hI0 => ?_)
        have eW : sW (cS I 86) c = I 88 c := rfl
        have hsp := sFl_spec (S := cS I 86) (c := c) (y := st.1) (I 34 0).toNat
        refine wp_iload (t := 25) rfl rfl ?_
        refine wp_aload_n (t := 26) rfl rfl ?_
        refine wp_getR (t := 27) (ji := 0) rfl fX5_37 rfl rfl (by omega) (by first | rfl | assumption) (by first | exact hW _ _ _ (by omega) rfl | assumption) ?_
        refine wp_getI (t := 28) (ji := 2) rfl fX5_57 rfl rfl (by omega) (by first | rfl | assumption) ?_
        rw [e34]
        refine wp_icmp_ge (t := 29) (tgt := 175) rfl (by decide) (by first | assumption | exact hI0 _ _ | exact zin_and _ _ | (unfold zin; omega) | (unfold zin at *; omega)) (by first | assumption | exact hI0 _ _ | exact zin_and _ _ | (unfold zin; omega) | (unfold zin at *; omega)) (fun h55 => ?_) (fun h55 => ?_)
        · exact absurd h55 (by omega)
        · refine wp_iload_n (t := 30) rfl rfl ?_
          refine wp_iload (t := 31) rfl rfl ?_
          refine wp_ishr (t := 32) rfl ?_
          refine wp_iconst (t := 33) rfl ?_
          refine wp_iand (t := 34) rfl ?_
          refine wp_iconst (t := 35) rfl ?_
          refine wp_icmp_eq (t := 36) (tgt := 169) rfl (by decide) (by first | assumption | exact hI0 _ _ | exact zin_and _ _ | (unfold zin; omega) | (unfold zin at *; omega)) (by first | assumption | exact hI0 _ _ | exact zin_and _ _ | (unfold zin; omega) | (unfold zin at *; omega)) (fun h65 => ?_) (fun h65 => ?_)
          · refine wp_iinc (t := 92) rfl rfl (by decide) rfl ?_
            refine wp_goto (t := 93) (tgt := 46) rfl (by decide) ?_
            rw [if_pos (Or.inl (by
              have hb : zbt pl c = true := decide_eq_true h65
              rw [hmask] at hb
              exact of_decide_eq_true hb))]
            exact ihk (c + 1) J st (by omega) (by omega) j1 j2 j3 j4 j5
          · refine wp_aload_n (t := 37) rfl rfl ?_
            refine wp_getR (t := 38) (ji := 1) rfl fX5_46 rfl rfl (by omega) (by first | rfl | assumption) (by first | exact hW _ _ _ (by omega) rfl | assumption) ?_
            refine wp_getR (t := 39) (ji := 5) rfl fX5_89 rfl rfl (by omega) (by first | rfl | assumption) (by first | exact hW _ _ _ (by omega) rfl | assumption) ?_
            refine wp_iload (t := 40) rfl rfl ?_
            refine wp_iaload (t := 41) rfl (by omega) (by first | rfl | assumption) (by omega) (by omega) (by omega) ?_
            refine wp_iload_n (t := 42) rfl rfl ?_
            rw [e91]
            refine wp_iconst (t := 43) rfl ?_
            refine wp_ixor (t := 44) rfl ?_
            refine wp_iand (t := 45) rfl ?_
            refine wp_if_eq (t := 46) (tgt := 88) rfl (by decide) (by first | assumption | exact hI0 _ _ | exact zin_and _ _ | (unfold zin; omega) | (unfold zin at *; omega)) (fun h82 => ?_) (fun h82 => ?_)
            · have hb : ¬ 0 < sW (cS I 86) c := fun q => h65 (by
                have hb : zbt pl c = true := by rw [hmask]; exact decide_eq_true q
                exact of_decide_eq_true hb)
              rw [if_neg (fun q => by rcases q with q | q; exact hb q; exact q (hwait.mp h82))]
              refine wp_iload_n (t := 48) rfl rfl ?_
              refine wp_aload_n (t := 49) rfl rfl ?_
              refine wp_getI (t := 50) (ji := 8) rfl fX5_31 rfl rfl (by omega) (by first | rfl | assumption) ?_
              rw [j1.1]
              refine wp_icmp_ge (t := 51) (tgt := 107) rfl (by decide) (by unfold zin; omega) (by unfold zin; omega) (fun h93 => ?_) (fun h93 => ?_)
              · refine wp_return (t := 57) rfl rfl ?_
                rw [if_pos (by omega)]
                exact ⟨rfl, ⟨j1, j2, j3, j4, j5⟩, rfl⟩
              · refine wp_aload_n (t := 52) rfl rfl ?_
                refine wp_getI (t := 53) (ji := 8) rfl fX5_31 rfl rfl (by omega) (by first | rfl | assumption) ?_
                refine wp_aload_n (t := 54) rfl rfl ?_
                refine wp_getI (t := 55) (ji := 9) rfl fX5_34 rfl rfl (by omega) (by first | rfl | assumption) ?_
                rw [j1.1, e9]
                refine wp_icmp_gt (t := 56) (tgt := 108) rfl (by decide) (by unfold zin; omega) (by rw [← e9]; exact hI0 _ _) (fun h104 => ?_) (fun h104 => ?_)
                · refine wp_aload_n (t := 58) rfl rfl ?_
                  refine wp_getR (t := 59) (ji := 1) rfl fX5_46 rfl rfl (by omega) (by first | rfl | assumption) (by first | exact hW _ _ _ (by omega) rfl | assumption) ?_
                  refine wp_iload (t := 60) rfl rfl ?_
                  refine wp_aload_n (t := 61) rfl rfl ?_
                  refine wp_getI (t := 62) (ji := 8) rfl fX5_31 rfl rfl (by omega) (by first | rfl | assumption) ?_
                  rw [j1.1]
                  refine wp_vi (ci := 3) (c_X3_placeDoneFirst (d := d + f + 1) (Or.inr rfl) hW hn m2 m3 ⟨c0, by rw [e34]; exact hc9⟩ ⟨j1.2.1, by omega⟩) (t := 63) rfl kX5_92 rfl rfl (by omega) (by first | rfl | assumption) ⟨_, _, rfl⟩ (Nat.le_of_ble_eq_true rfl) ⟨Nat.le_refl _, Nat.le_refl _⟩ (fun r118 I118 R118 c118 => ?_)
                  refine wp_canon (fun hI1 => ?_)
                  obtain ⟨c118, rfl⟩ := c118
                  rw [m1, e34] at c118
                  rw [if_neg (by omega)]
                  refine wp_if_ne (t := 64) (tgt := 125) rfl (by decide) (by rcases c118 with q | q <;> (unfold zin; omega)) (fun h121 => ?_) (fun h121 => ?_)
                  · rcases c118 with ⟨q1, q2, q3⟩ | ⟨q1, q2, q3⟩
                    · exact absurd q1 h121
                    rw [if_neg (show ¬ (sFl (cS I 86) c st.1 (sL (cS I 86)).toNat).1 = 0 from q2)]
                    show WP _ _ _ _ _ _ _ _ _ _ _ _ _ (zP0 (fun I' R' => tPost I I' dp sl (tLoop _ fl (cS I 86) o dp len k (tTry fl f (sPut (cS I 86) c (sFl (cS I 86) c st.1 (I 34 0).toNat).1 (sFl (cS I 86) c st.1 (I 34 0).toNat).2.1) (fun j => if j = dp then c else o j) (dp + 1) (max len ((sFl (cS I 86) c st.1 (I 34 0).toNat).2.1 + sT (cS I 86) c (sFl (cS I 86) c st.1 (I 34 0).toNat).1)) st)) ∧ R' = R118))
                    rcases hsp with ⟨-, -, hsp | ⟨s1, s2, s3, s4, s5, s6, s7⟩⟩
                    · exact absurd hsp.1 q2
                    rw [s5] at s6
                    generalize hzz : sFl (cS I 86) c st.1 (I 34 0).toNat = z at q2 q3 s1 s2 s3 s4 s5 s6 s7 ⊢
                    have hT := f5 c z.1 c0 hc9 s1 (by show z.1 ≤ I 34 0; omega)
                    have hPput : zPl (zput J 86 c z.1 z.2.1) 86 := zput_Pl m3 ⟨c0, by rw [e34]; exact hc9⟩ ⟨s1, by rw [e34]; omega⟩ ⟨s3, by omega⟩ (by rw [m1]; omega)
                    have hput := cS_put (I := J) (p := 86) (c := c) (w := z.1) (t := z.2.1) (Or.inr rfl)
                    have hput : cS (zput J 86 c z.1 z.2.1) 86 = sPut (cS J 86) c z.1 z.2.1 := hput
                    rw [m1] at hput
                    obtain ⟨u1, u2, u3, u4⟩ := zu3_eq (I := J) (p := 86) (c := c) (w := z.1) (t := z.2.1) (u := z.2.1 + sT (cS J 86) c z.1)
                    have v1 : zput J 86 c z.1 z.2.1 88 = fun j => if j = c then z.1 else J 88 j := u1
                    have v2 : zput J 86 c z.1 z.2.1 89 = fun j => if j = c then z.2.1 else J 89 j := u2
                    have v3 : zput J 86 c z.1 z.2.1 90 = fun j => if j = c then z.2.1 + sT (cS J 86) c z.1 else J 90 j := u3
                    have v4 : ∀ b : Nat, b ≠ 88 → b ≠ 89 → b ≠ 90 → zput J 86 c z.1 z.2.1 b = J b := u4
                    rw [m1] at v3
                    have w88 : J 88 = I 88 := j4 88 (by decide) (by decide) (by omega)
                    have w89 : J 89 = I 89 := j4 89 (by decide) (by decide) (by omega)
                    have w90 : J 90 = I 90 := j4 90 (by decide) (by decide) (by omega)
                    rw [w88] at v1
                    rw [w89] at v2
                    rw [w90] at v3
                    have hz0 := p2 c c0 hc9 hb
                    generalize hK : zput J 86 c z.1 z.2.1 = K at *
                    subst q3
                    refine wp_aload_n (t := 66) rfl rfl ?_
                    refine wp_getR (t := 67) (ji := 3) rfl fX5_9 rfl rfl (by omega) (by first | rfl | assumption) (by first | exact hW _ _ _ (by omega) rfl | assumption) ?_
                    refine wp_iload_n (t := 68) rfl rfl ?_
                    refine wp_iload (t := 69) rfl rfl ?_
                    refine wp_iastore (t := 70) rfl (by omega) (by first | rfl | assumption) (by omega) (by omega) (by omega) (by first | assumption | exact hI1 _ _ | exact hI0 _ _ | exact zin_and _ _ | (unfold zin; omega) | (unfold zin at *; omega)) ?_
                    refine wp_canon (fun hI2 => ?_)
                    refine wp_aload_n (t := 71) rfl rfl ?_
                    refine wp_iload_n (t := 72) rfl rfl ?_
                    refine wp_iconst (t := 73) rfl ?_
                    refine wp_iadd (t := 74) rfl ?_
                    refine wp_iload_n (t := 75) rfl rfl ?_
                    refine wp_iconst (t := 76) rfl ?_
                    refine wp_iload (t := 77) rfl rfl ?_
                    refine wp_ishl (t := 78) rfl ?_
                    refine wp_ior (t := 79) rfl ?_
                    refine wp_iload_n (t := 80) rfl rfl ?_
                    refine wp_aload_n (t := 81) rfl rfl ?_
                    refine wp_getR (t := 82) (ji := 1) rfl fX5_46 rfl rfl (by omega) (by first | rfl | assumption) (by first | exact hW _ _ _ (by omega) rfl | assumption) ?_
                    refine wp_getR (t := 83) (ji := 4) rfl fX5_96 rfl rfl (by omega) (by first | rfl | assumption) (by first | exact hW _ _ _ (by omega) rfl | assumption) ?_
                    refine wp_iload (t := 84) rfl rfl ?_
                    refine wp_iaload (t := 85) rfl (by omega) (by first | rfl | assumption) (by omega) (by omega) (by omega) ?_
                    rw [show zu I118 73 dp c 90 c = z.2.1 + sT (cS I 86) c z.1 by rw [zu_na (by decide), v3]; exact if_pos rfl]
                    refine wp_max (t := 86) rfl (wsL_law_r36_l (List.mem_of_getElem? (i := 18) rfl)) (by first | assumption | exact hI2 _ _ | exact hI1 _ _ | exact hI0 _ _ | exact zin_and _ _ | (unfold zin; omega) | (unfold zin at *; omega)) (by first | assumption | exact hI2 _ _ | exact hI1 _ _ | exact hI0 _ _ | exact zin_and _ _ | (unfold zin; omega) | (unfold zin at *; omega)) (Nat.le_of_ble_eq_true rfl) ⟨Nat.le_refl _, Nat.le_refl _⟩ ?_
                    refine wp_sv (ihf d (zu I118 73 dp c) (fun j => if j = dp then c else o j) st.2 (dp + 1) (zior pl (zishl 1 c)) (max len (z.2.1 + sT (cS I 86) c z.1)) fl sl (zCh_ext (I := J) (fun b b1 b2 => by rw [zu_ne (by omega)]; exact v4 b (by omega) (by omega) (by omega)) m2) (zPl_ext (I := I118) (zu_ne (by decide)) (zu_ne (by decide)) (zu_ne (by decide)) (zu_ne (by decide)) (zu_ne (by decide)) (zu_ne (by decide)) hPput) (by rw [zu_na (by decide), v4 34 (by decide) (by decide) (by decide), e34]; omega) (tPre_step hc9 c0 hco p1 p2 p3 p4 ⟨p6a, p6b⟩ (by rw [zu_na (by decide), v4 72 (by decide) (by decide) (by decide), j3 7 (by decide)]; exact p6) (by rw [zu_na (by decide), v4 72 (by decide) (by decide) (by decide)]; exact e9) (by rw [zu_na (by decide), v4 72 (by decide) (by decide) (by decide), j1.1]; exact j1.2) (by omega) p10 s1 (by rw [zu_ne (by decide), v4 34 (by decide) (by decide) (by decide), e34]) (by rw [zu_ne (by decide), v4 91 (by decide) (by decide) (by decide), e91]) (by rw [zu_ne (by decide), v1]) (by rw [zu_ne (by decide), v2]) (by rw [zu_ne (by decide), v3]) (fun j j0 jd => by rw [zu_ni (by omega), v4 73 (by decide) (by decide) (by decide)]; exact j5 j j0 jd) zu_eq (fun j j0 jN => by rw [zu_na (by omega), v4 _ (by omega) (by omega) (by omega)]; exact j2 j j0 jN))) (t := 87) rfl kX5_79 rfl rfl (Nat.le_of_ble_eq_true rfl) ⟨Nat.le_refl _, Nat.le_refl _⟩ (fun I157 R157 c157 => ?_)
                    refine wp_canon (fun hI3 => ?_)
                    obtain ⟨⟨t1, t2, t3, t4, t5⟩, rfl⟩ := c157
                    rw [show cS (zu I118 73 dp c) 86 = cS I118 86 from cS_ext (zu_ne (by decide)) (zu_ne (by decide)) (zu_ne (by decide)) (fun b _ _ => zu_ne (by omega)) (zu_ne (by decide)) (zu_ne (by decide)) (zu_ne (by decide)) (zu_ne (by decide)) (zu_ne (by decide)), hput, show zu I118 73 dp c 72 8 = st.1 by rw [zu_na (by decide), v4 72 (by decide) (by decide) (by decide)]; exact j1.1] at t1 t2
                    refine wp_aload_n (t := 88) rfl rfl ?_
                    refine wp_getR (t := 89) (ji := 1) rfl fX5_46 rfl rfl (by omega) (by first | rfl | assumption) (by first | exact hW _ _ _ (by omega) rfl | assumption) ?_
                    refine wp_iload (t := 90) rfl rfl ?_
                    refine wp_vv (ci := 3) (c_X3_takeOff (d := d + f + 5) (Or.inr rfl) hW hn ⟨c0, by omega⟩) (t := 91) rfl kX5_105 rfl rfl (by omega) (by first | rfl | assumption) ⟨_, _, rfl⟩ (Nat.le_of_ble_eq_true rfl) ⟨Nat.le_refl _, Nat.le_refl _⟩ (fun I166 R166 c166 => ?_)
                    refine wp_canon (fun hI4 => ?_)
                    obtain ⟨rfl, rfl⟩ := c166
                    refine wp_iinc (t := 92) rfl rfl (by decide) rfl ?_
                    refine wp_goto (t := 93) (tgt := 46) rfl (by decide) ?_
                    obtain ⟨y1, y2, y3, y4⟩ := zu3_eq (I := I157) (p := 86) (c := c) (w := 0) (t := 0) (u := 0)
                    refine ihk (c + 1) _ _ (by omega) (by omega) ?_ (fun j j0 jN => ?_) (fun j hj => ?_) (fun b b1 b2 b3 => ?_) (fun j j0 jd => ?_)
                    · rw [y4 72 (by decide) (by decide) (by decide)]; exact t1
                    · rw [y4 (75 + sl.toNat) (by omega) (by omega) (by omega)]; exact t2 j j0 (by rw [zu_na (by decide), v4 34 (by decide) (by decide) (by decide), e34]; exact jN)
                    · rw [y4 72 (by decide) (by decide) (by decide), t3 j hj, zu_na (by decide), v4 72 (by decide) (by decide) (by decide)]; exact j3 j hj
                    · by_cases g1 : b = 88
                      · subst g1
                        refine y1.trans (funext fun j => ?_)
                        rw [t4 (86 + 2) (by decide) (by decide) (by omega), zu_ne (by decide), v1]
                        by_cases e : j = c
                        · rw [if_pos e, e]; exact hz0.1.symm
                        · rw [if_neg e]; exact if_neg e
                      · by_cases g2 : b = 89
                        · subst g2
                          refine y2.trans (funext fun j => ?_)
                          rw [t4 (86 + 3) (by decide) (by decide) (by omega), zu_ne (by decide), v2]
                          by_cases e : j = c
                          · rw [if_pos e, e]; exact hz0.2.1.symm
                          · rw [if_neg e]; exact if_neg e
                        · by_cases g3 : b = 90
                          · subst g3
                            refine y3.trans (funext fun j => ?_)
                            rw [t4 (86 + 4) (by decide) (by decide) (by omega), zu_ne (by decide), v3]
                            by_cases e : j = c
                            · rw [if_pos e, e]; exact hz0.2.2.symm
                            · rw [if_neg e]; exact if_neg e
                          · rw [y4 b g1 g2 g3, t4 b b1 b2 b3, zu_ne b2, v4 b g1 g2 g3]; exact j4 b b1 b2 b3
                    · rw [y4 73 (by decide) (by decide) (by decide), t5 j j0 (by omega), zu_ni (by omega), v4 73 (by decide) (by decide) (by decide)]; exact j5 j j0 jd
                  · refine wp_return (t := 65) rfl rfl ?_
                    rcases c118 with ⟨q1, q2, rfl⟩ | ⟨q1, q2, q3⟩
                    · rw [if_pos (show (sFl (cS I 86) c st.1 (sL (cS I 86)).toNat).1 = 0 from q2)]
                      exact ⟨rfl, ⟨j1, j2, j3, j4, j5⟩, rfl⟩
                    · omega
                · refine wp_return (t := 57) rfl rfl ?_
                  rw [if_pos (by omega)]
                  exact ⟨rfl, ⟨j1, j2, j3, j4, j5⟩, rfl⟩
            · refine wp_goto (t := 47) (tgt := 169) rfl (by decide) ?_
              refine wp_iinc (t := 92) rfl rfl (by decide) rfl ?_
              refine wp_goto (t := 93) (tgt := 46) rfl (by decide) ?_
              rw [if_pos (Or.inr (fun q => h82 (hwait.mpr q)))]
              exact ihk (c + 1) J st (by omega) (by omega) j1 j2 j3 j4 j5
    refine wp_ls (ls' := [some (zR 72), some (zI dp), some (zI pl), some (zI len), none]) rfl ?_
    refine wp_iload_n (t := 0) rfl rfl ?_
    refine wp_aload_n (t := 1) rfl rfl ?_
    refine wp_getR (t := 2) (ji := 0) rfl fX5_37 rfl rfl (by omega) (by first | rfl | assumption) (by first | exact hW _ _ _ (by omega) rfl | assumption) ?_
    refine wp_getI (t := 3) (ji := 2) rfl fX5_57 rfl rfl (by omega) (by first | rfl | assumption) ?_
    refine wp_icmp_ge (t := 4) (tgt := 17) rfl (by decide) (by first | assumption | exact hI0 _ _ | exact zin_and _ _ | (unfold zin; omega) | (unfold zin at *; omega)) (by first | assumption | exact hI0 _ _ | exact zin_and _ _ | (unfold zin; omega) | (unfold zin at *; omega)) (fun h8 => ?_) (fun h8 => ?_)
    · first | exact absurd h8 (by omega) | exact absurd h14 (by omega)
    · refine wp_iload_n (t := 5) rfl rfl ?_
      refine wp_bipush (t := 6) rfl (by decide) ?_
      refine wp_icmp_lt (t := 7) (tgt := 43) rfl (by decide) (by first | assumption | exact hI0 _ _ | exact zin_and _ _ | (unfold zin; omega) | (unfold zin at *; omega)) (by first | assumption | exact hI0 _ _ | exact zin_and _ _ | (unfold zin; omega) | (unfold zin at *; omega)) (fun h14 => ?_) (fun h14 => ?_)
      · refine wp_iconst (t := 23) rfl ?_
        refine wp_istore (t := 24) rfl (by decide) rfl ?_
        exact loop _ 0 I (I 72 8, bo) (by omega) (by show (0 : Int) + ((I 34 2).toNat : Int) = I 34 2; omega) ⟨rfl, p8⟩ p5 (fun _ _ => rfl) (fun _ _ _ _ => rfl) (fun _ _ _ => rfl)
      · first | exact absurd h8 (by omega) | exact absurd h14 (by omega)
