/-! the search gives the first of the best orders -/
def oApp (o : Int → Int) (dp : Int) (p : List Nat) : Int → Int := fun j => if j < dp then o j else oL p (j - dp)
def dUp (S : zS) (o : Int → Int) (dp : Int) (st : tSt) (p : List Nat) : tSt := if 0 ≤ goL S p ∧ goL S p < st.1 then (goL S p, oApp o dp p) else st
def dF (S : zS) (o : Int → Int) (dp : Int) (st : tSt) (ps : List (List Nat)) : tSt := ps.foldl (dUp S o dp) st
def stEq (N : Int) (a b : tSt) : Prop := a.1 = b.1 ∧ ∀ j : Int, 0 ≤ j → j < N → a.2 j = b.2 j
theorem oApp_cons (o : Int → Int) {dp : Int} (h : 0 ≤ dp) (c : Nat) (p : List Nat) : oApp o dp (c :: p) = oApp (fun j => if j = dp then (c : Int) else o j) (dp + 1) p := by
  funext j
  show (if j < dp then o j else oL (c :: p) (j - dp)) = if j < dp + 1 then (if j = dp then (c : Int) else o j) else oL p (j - (dp + 1))
  by_cases q : j < dp
  · rw [if_pos q, if_pos (by omega), if_neg (by omega)]
  · rw [if_neg q]
    by_cases q2 : j = dp
    · rw [if_pos (by omega), if_pos q2, q2]
      show (((c :: p).getD (dp - dp).toNat 0 : Nat) : Int) = c
      rw [show (dp - dp).toNat = 0 by omega]
      rfl
    · rw [if_neg (by omega)]
      show (((c :: p).getD (j - dp).toNat 0 : Nat) : Int) = ((p.getD (j - (dp + 1)).toNat 0 : Nat) : Int)
      rw [show (j - dp).toNat = (j - (dp + 1)).toNat + 1 by omega]
      rfl
theorem dF_eq {N : Int} {S : zS} {o : Int → Int} {dp : Int} : ∀ (ps : List (List Nat)) {a b : tSt}, stEq N a b → stEq N (dF S o dp a ps) (dF S o dp b ps) := by
  intro ps
  induction ps with
  | nil => exact fun h => h
  | cons p r ih =>
    intro a b h
    refine ih ?_
    unfold dUp
    rw [h.1]
    split
    · exact ⟨rfl, fun _ _ _ => rfl⟩
    · exact h
theorem dF_le {S : zS} {o : Int → Int} {dp : Int} : ∀ (ps : List (List Nat)) (a : tSt), (dF S o dp a ps).1 ≤ a.1 := by
  intro ps
  induction ps with
  | nil => exact fun a => Int.le_refl _
  | cons p r ih =>
    intro a
    refine Int.le_trans (ih _) ?_
    unfold dUp
    split
    · rename_i h
      show goL S p ≤ a.1
      omega
    · exact Int.le_refl _
theorem dF_id {S : zS} {o : Int → Int} {dp : Int} : ∀ (ps : List (List Nat)) (a : tSt), (∀ p, p ∈ ps → goL S p = -4 ∨ a.1 ≤ goL S p) → dF S o dp a ps = a := by
  intro ps
  induction ps with
  | nil => exact fun a _ => rfl
  | cons p r ih =>
    intro a h
    have e : dUp S o dp a p = a := if_neg (fun q => by rcases h p List.mem_cons_self with g | g <;> omega)
    show dF S o dp (dUp S o dp a p) r = a
    rw [e]
    exact ih a (fun p hp => h p (List.mem_cons_of_mem _ hp))
theorem dF_append {S : zS} {o : Int → Int} {dp : Int} {a : tSt} {ps qs : List (List Nat)} : dF S o dp a (ps ++ qs) = dF S o dp (dF S o dp a ps) qs := List.foldl_append
theorem dF_flat {S : zS} {o : Int → Int} {dp : Int} (h : Nat → List (List Nat)) : ∀ (l : List Nat) (a : tSt), dF S o dp a (l.flatMap h) = l.foldl (fun st c => dF S o dp st (h c)) a := by
  intro l
  induction l with
  | nil => exact fun a => rfl
  | cons c r ih =>
    intro a
    rw [List.flatMap_cons, dF_append, ih]
    rfl
theorem dF_map {S : zS} {o : Int → Int} {dp : Int} (hdp : 0 ≤ dp) {c : Nat} (hz : ¬ (sFl S (c : Int) 2000000 (sL S).toNat).1 = 0) : ∀ (ps : List (List Nat)) (a : tSt), dF S o dp a (ps.map (fun p => c :: p)) = dF (sPut S (c : Int) (sFl S (c : Int) 2000000 (sL S).toNat).1 (sFl S (c : Int) 2000000 (sL S).toNat).2.1) (fun j => if j = dp then (c : Int) else o j) (dp + 1) a ps := by
  intro ps
  induction ps with
  | nil => exact fun a => rfl
  | cons p r ih =>
    intro a
    have e : dUp S o dp a (c :: p) = dUp (sPut S (c : Int) (sFl S (c : Int) 2000000 (sL S).toNat).1 (sFl S (c : Int) 2000000 (sL S).toNat).2.1) (fun j => if j = dp then (c : Int) else o j) (dp + 1) a p := by
      unfold dUp
      rw [oApp_cons o hdp]
      have : goL S (c :: p) = if (sFl S (c : Int) 2000000 (sL S).toNat).1 = 0 then (-4 : Int) else goL (sPut S (c : Int) (sFl S (c : Int) 2000000 (sL S).toNat).1 (sFl S (c : Int) 2000000 (sL S).toNat).2.1) p := rfl
      rw [this, if_neg hz]
    show dF S o dp (dUp S o dp a (c :: p)) (r.map (fun p => c :: p)) = _
    rw [e]
    exact ih _
theorem foldl_same {α : Type} {G : α → Nat → α} : ∀ (l : List Nat) (a : α), (∀ c, c ∈ l → G a c = a) → l.foldl G a = a := by
  intro l
  induction l with
  | nil => exact fun a _ => rfl
  | cons c r ih =>
    intro a h
    show r.foldl G (G a c) = a
    rw [h c List.mem_cons_self]
    exact ih a (fun c hc => h c (List.mem_cons_of_mem _ hc))
def unp (S : zS) : Nat → Bool := fun c => decide (¬ 0 < sW S (c : Int))
theorem tTry_dF {fl : Int} : ∀ (f : Nat) (S : zS) (rem : List Nat) (o : Int → Int) (dp len : Int) (st : tSt), zMid S rem → rem = (List.range (sN S).toNat).filter (unp S) → rem.length = f → dp + f = sN S → 0 ≤ dp → len = sLen S (sN S).toNat → fl = sGreat S → st.1 ≤ 2000000 → (f = 0 → len < st.1) → stEq (sN S) (tTry fl f S o dp len st) (dF S o dp st (lexL f rem)) := by
  intro f
  induction f with
  | zero =>
    intro S rem o dp len st h hr hl hdp dp0 hlen hfl hst hlt
    have ln := (sLen_ge (S := S) (sN S).toNat).1
    have e : dF S o dp st (lexL 0 rem) = (sLen S (sN S).toNat, oApp o dp []) := if_pos (show 0 ≤ sLen S (sN S).toNat ∧ sLen S (sN S).toNat < st.1 by have := hlt rfl; omega)
    rw [e]
    refine ⟨hlen, fun j j0 j1 => ?_⟩
    show o j = if j < dp then o j else oL [] (j - dp)
    rw [if_pos (by omega)]
  | succ f ihf =>
    intro S rem o dp len st h hr hl hdp dp0 hlen hfl hst hlt
    have hN := h.1.1
    have hL := h.1.2.1
    -- the loop over the cores
    have loop : ∀ (k : Nat) (st st' : tSt), k ≤ (sN S).toNat → st.1 ≤ 2000000 → stEq (sN S) st st' → stEq (sN S) (tLoop (fun S' o' len' st' => tTry fl f S' o' (dp + 1) len' st') fl S o dp len k st) (((List.range' ((sN S).toNat - k) k).filter (unp S)).foldl (fun st c => dF S o dp st ((lexL f (rem.erase c)).map (fun p => c :: p))) st') := by
      intro k
      induction k with
      | zero => exact fun st st' _ _ he => he
      | succ k ihk =>
        intro st st' hk hst he
        have hsub : ∀ x, x ∈ (List.range' ((sN S).toNat - (k + 1)) (k + 1)).filter (unp S) → x ∈ rem := fun x hx => by
          rw [List.mem_filter, List.mem_range'_1] at hx
          rw [h.2.2.1 x]
          exact ⟨by omega, of_decide_eq_true hx.2⟩
        generalize hc : (sN S).toNat - (k + 1) = c at *
        have hcI : sN S - ((k : Int) + 1) = (c : Int) := by omega
        have hr' : List.range' c (k + 1) = c :: List.range' ((sN S).toNat - k) k := by
          rw [List.range'_succ, show (sN S).toNat - k = c + 1 by omega]
        rw [tLoop_succ hcI]
        rw [hr', List.filter_cons] at hsub ⊢
        by_cases hp : 0 < sW S (c : Int)
        · rw [if_pos (Or.inl hp), if_neg (show ¬ unp S c = true from fun q => (of_decide_eq_true q) hp)]
          exact ihk st st' (by omega) hst he
        · have hu : unp S c = true := decide_eq_true hp
          rw [if_pos hu] at hsub ⊢
          have hcr := hsub c List.mem_cons_self
          have memA : ∀ x, x ∈ rem → ∀ p, p ∈ (lexL f (rem.erase x)).map (fun p => x :: p) → p ∈ lexL (f + 1) rem := fun x hx p hp => List.mem_flatMap.mpr ⟨x, hx, hp⟩
          by_cases hw : sWait S (c : Int) = -4
          · rw [if_neg (fun q => by rcases q with q | q; exact hp q; exact q hw)]
            by_cases hpr : st.1 ≤ len ∨ st.1 ≤ fl
            · rw [if_pos hpr, foldl_same (G := fun st c => dF S o dp st ((lexL f (rem.erase c)).map (fun p => c :: p))) _ st' (fun x hx => dF_id _ st' (fun p hp => by
                rcases goL_ge (f + 1) S rem h hl p (memA x (hsub x hx) p hp) with g | ⟨g1, g2, -⟩
                · exact Or.inl g
                · right
                  rw [← he.1]
                  omega))]
              exact he
            · rw [if_neg hpr]
              by_cases hz : (sFl S (c : Int) st.1 (sL S).toNat).1 = 0
              · rw [if_pos hz, foldl_same (G := fun st c => dF S o dp st ((lexL f (rem.erase c)).map (fun p => c :: p))) _ st' (fun x hx => dF_id _ st' (fun p hp => by
                  rw [← he.1]
                  have sp := sFl_spec (S := S) (c := c) (y := st.1) (sL S).toNat
                  exact goL_late (f + 1) S rem h hl hcr (sWait_iff.mp hw) (fun w t w0 w1 t0 ho => by
                    have := sp.2.1 w t w0 (by omega) t0 ho
                    rcases sp.2.2 with q | q <;> omega) p (memA x (hsub x hx) p hp)))]
                exact he
              · rw [if_neg hz]
                have same := sFl_same (S := S) (c := c) (n := (sL S).toNat) hst hz
                have sp := (sFl_spec (S := S) (c := c) (y := st.1) (sL S).toNat).2.2
                have sp : 1 ≤ (sFl S (c : Int) st.1 (sL S).toNat).1 ∧ (sFl S (c : Int) st.1 (sL S).toNat).2.1 + sT S (c : Int) (sFl S (c : Int) st.1 (sL S).toNat).1 < st.1 := by
                  rcases sp with q | q
                  · exact absurd q.1 hz
                  · omega
                rw [← same] at hz sp ⊢
                have cc := (h.2.2.1 c).mp hcr
                have lp := sLen_put (S := S) (t := (sFl S (c : Int) 2000000 (sL S).toNat).2.1) (show 0 < (sFl S (c : Int) 2000000 (sL S).toNat).1 by omega) cc.2 (sN S).toNat
                rw [if_pos (by omega)] at lp
                have her : rem.erase c = (List.range (sN S).toNat).filter (unp (sPut S (c : Int) (sFl S (c : Int) 2000000 (sL S).toNat).1 (sFl S (c : Int) 2000000 (sL S).toNat).2.1)) := by
                  rw [h.2.2.2.erase_eq_filter, hr, List.filter_filter]
                  refine List.filter_congr (fun x hx => ?_)
                  show (x != c && unp S x) = decide (¬ 0 < (if (x : Int) = (c : Int) then (sFl S (c : Int) 2000000 (sL S).toNat).1 else sW S (x : Int)))
                  by_cases e : x = c
                  · rw [if_pos (by omega), decide_eq_false (fun q => q (by omega))]
                    simp [e]
                  · rw [if_neg (by omega)]
                    simp [e, unp]
                have ih := ihf (sPut S (c : Int) (sFl S (c : Int) 2000000 (sL S).toNat).1 (sFl S (c : Int) 2000000 (sL S).toNat).2.1) (rem.erase c) (fun j => if j = dp then (c : Int) else o j) (dp + 1) (max len ((sFl S (c : Int) 2000000 (sL S).toNat).2.1 + sT S (c : Int) (sFl S (c : Int) 2000000 (sL S).toNat).1)) st (zMid_put h hcr hz) her (by rw [List.length_erase_of_mem hcr]; omega) (by show dp + 1 + (f : Int) = sN S; omega) (by omega) (by rw [hlen]; exact lp.symm) hfl hst (fun _ => by omega)
                have gc : dF S o dp st' ((lexL f (rem.erase c)).map (fun p => c :: p)) = dF (sPut S (c : Int) (sFl S (c : Int) 2000000 (sL S).toNat).1 (sFl S (c : Int) 2000000 (sL S).toNat).2.1) (fun j => if j = dp then (c : Int) else o j) (dp + 1) st' (lexL f (rem.erase c)) := dF_map dp0 hz _ _
                rw [List.foldl_cons, gc]
                have e2 : stEq (sN S) (tTry fl f (sPut S (c : Int) (sFl S (c : Int) 2000000 (sL S).toNat).1 (sFl S (c : Int) 2000000 (sL S).toNat).2.1) (fun j => if j = dp then (c : Int) else o j) (dp + 1) (max len ((sFl S (c : Int) 2000000 (sL S).toNat).2.1 + sT S (c : Int) (sFl S (c : Int) 2000000 (sL S).toNat).1)) st) (dF (sPut S (c : Int) (sFl S (c : Int) 2000000 (sL S).toNat).1 (sFl S (c : Int) 2000000 (sL S).toNat).2.1) (fun j => if j = dp then (c : Int) else o j) (dp + 1) st' (lexL f (rem.erase c))) := by
                  have q := dF_eq (S := sPut S (c : Int) (sFl S (c : Int) 2000000 (sL S).toNat).1 (sFl S (c : Int) 2000000 (sL S).toNat).2.1) (o := fun j => if j = dp then (c : Int) else o j) (dp := dp + 1) (lexL f (rem.erase c)) he
                  exact ⟨ih.1.trans q.1, fun j j0 j1 => (ih.2 j j0 j1).trans (q.2 j j0 j1)⟩
                refine ihk _ _ (by omega) ?_ e2
                have := dF_le (S := sPut S (c : Int) (sFl S (c : Int) 2000000 (sL S).toNat).1 (sFl S (c : Int) 2000000 (sL S).toNat).2.1) (o := fun j => if j = dp then (c : Int) else o j) (dp := dp + 1) (lexL f (rem.erase c)) st
                rw [← ih.1] at this
                omega
          · rw [if_pos (Or.inr hw), List.foldl_cons]
            have hz : (sFl S (c : Int) 2000000 (sL S).toNat).1 = 0 := by
              rcases (sFl_spec (S := S) (c := c) (y := 2000000) (sL S).toNat).2.2 with q | q
              · exact q.1
              · exact absurd (sWait_iff.mpr (fun a a0 a1 a2 => (q.2.2.2.1.1 a a0 a1 a2).1)) hw
            have gc : dF S o dp st' ((lexL f (rem.erase c)).map (fun p => c :: p)) = st' := dF_id _ st' (fun p hp => by
              obtain ⟨q, -, rfl⟩ := List.mem_map.mp hp
              exact Or.inl (if_pos hz))
            rw [gc]
            exact ihk st st' (by omega) hst he
    have hlex : lexL (f + 1) rem = rem.flatMap (fun c => (lexL f (rem.erase c)).map (fun p => c :: p)) := rfl
    rw [hlex, dF_flat]
    have g := loop (sN S).toNat st st (Nat.le_refl _) hst ⟨rfl, fun _ _ _ => rfl⟩
    rw [Nat.sub_self, ← List.range_eq_range', ← hr] at g
    exact g
