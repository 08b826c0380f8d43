/-! a text read through its letters only -/
def pEq (S S' : pS) : Prop := S.1 = S'.1 ∧ S.2.1 = S'.2.1 ∧ S.2.2.1 = S'.2.2.1 ∧ S.2.2.2.1 = S'.2.2.2.1 ∧ S.2.2.2.2.1 = S'.2.2.2.2.1 ∧ (∀ c i : Int, 0 ≤ c → c < S.1.2.2.1 → 0 ≤ i → i < S.2.2.2.2.1 c → S.2.2.2.2.2.1 c i = S'.2.2.2.2.2.1 c i) ∧ S.2.2.2.2.2.2 = S'.2.2.2.2.2.2
theorem pEq_refl (S : pS) : pEq S S := ⟨rfl, rfl, rfl, rfl, rfl, fun _ _ _ _ _ _ => rfl, rfl⟩
section ZP
variable {T T' : Int → Int} {L : Int}
theorem pFig_cg (h : ∀ p, 0 ≤ p → p < L → T p = T' p) : pFig T L = pFig T' L := by
  funext p
  unfold pFig
  by_cases q : 0 ≤ p ∧ p < L
  · rw [h p q.1 q.2]
  · rw [if_neg (fun z => q z.1), if_neg (fun z => q z.1)]
theorem pLet_cg (h : ∀ p, 0 ≤ p → p < L → T p = T' p) : pLet T L = pLet T' L := by
  funext p
  unfold pLet
  by_cases q : 0 ≤ p ∧ p < L
  · rw [h p q.1 q.2]
  · rw [if_neg q, if_neg q]
theorem pVal_cg (h : ∀ p, 0 ≤ p → p < L → T p = T' p) : pVal T L = pVal T' L := by
  funext p
  unfold pVal
  rw [pFig_cg h]
theorem pEnd_cg (h : ∀ p, 0 ≤ p → p < L → T p = T' p) : pEnd T L = pEnd T' L := by
  funext p
  unfold pEnd
  rw [pFig_cg h]
theorem pNum_cg (h : ∀ p, 0 ≤ p → p < L → T p = T' p) : pNum T L = pNum T' L := by
  funext lo hi sg p
  unfold pNum pNok
  rw [pFig_cg h, pLet_cg h, pVal_cg h, pEnd_cg h]
theorem pRun_cg (h : ∀ p, 0 ≤ p → p < L → T p = T' p) : pRun T L = pRun T' L := by
  funext p k
  induction k with
  | zero => rfl
  | succ k ih =>
    show (if pRun T L p k = k ∧ 0 < pFig T L (p + k) then ((k : Int) + 1) else pRun T L p k) = (if pRun T' L p k = k ∧ 0 < pFig T' L (p + k) then ((k : Int) + 1) else pRun T' L p k)
    rw [ih, pFig_cg h]
theorem pC1_cg (h : ∀ p, 0 ≤ p → p < L → T p = T' p) : pC1 T L = pC1 T' L := by
  funext p
  unfold pC1
  rw [pNum_cg h]
theorem pC2_cg (h : ∀ p, 0 ≤ p → p < L → T p = T' p) : pC2 T L = pC2 T' L := by
  funext p
  unfold pC2
  rw [pNum_cg h, pC1_cg h]
theorem pC3_cg (h : ∀ p, 0 ≤ p → p < L → T p = T' p) : pC3 T L = pC3 T' L := by
  funext p
  unfold pC3
  rw [pNum_cg h, pC2_cg h]
theorem pCm_cg (h : ∀ p, 0 ≤ p → p < L → T p = T' p) : pCm T L = pCm T' L := by
  funext p
  unfold pCm
  rw [pRun_cg h, pC3_cg h]
theorem pR1_cg (h : ∀ p, 0 ≤ p → p < L → T p = T' p) {S S' : pS} (e : pEq S S') (p : Int) : pR1 T L S p = pR1 T' L S' p := by
  unfold pR1
  rw [pNum_cg h, e.1]
theorem pR2_cg (h : ∀ p, 0 ≤ p → p < L → T p = T' p) {S S' : pS} (e : pEq S S') (p : Int) : pR2 T L S p = pR2 T' L S' p := by
  unfold pR2
  rw [pNum_cg h, e.1, pR1_cg h e]
theorem pIok_cg (h : ∀ p, 0 ≤ p → p < L → T p = T' p) {S S' : pS} (e : pEq S S') (p : Int) : pIok T L S p ↔ pIok T' L S' p := by
  unfold pIok pCok pRok pLn pPw
  rw [pLet_cg h, pNum_cg h, pC1_cg h, pC2_cg h, pC3_cg h, pCm_cg h, pR1_cg h e, pR2_cg h e, e.1]
theorem pNx_cg (h : ∀ p, 0 ≤ p → p < L → T p = T' p) {S S' : pS} (e : pEq S S') (p : Int) : pNx T L S p = pNx T' L S' p := by
  unfold pNx pLn pPw
  rw [pLet_cg h, pNum_cg h, pC3_cg h, pCm_cg h, pR2_cg h e]
theorem pUp_cg (h : ∀ p, 0 ≤ p → p < L → T p = T' p) {S S' : pS} (e : pEq S S') (p : Int) : pEq (pUp T L S p) (pUp T' L S' p) := by
  have er1 := pR1_cg h e p
  have er2 := pR2_cg h e p
  obtain ⟨e1, e2, e3, e4, e5, e6, e7⟩ := e
  unfold pUp
  rw [pLet_cg h]
  by_cases q1 : pLet T' L p = 119
  · rw [if_pos q1, if_pos q1]
    unfold pUpL pLn
    rw [pNum_cg h, e1]
    exact ⟨rfl, e2, e3, e4, e5, fun c i c0 c1 i0 i1 => e6 c i c0 (by rw [e1]; exact c1) i0 i1, e7⟩
  · rw [if_neg q1, if_neg q1]
    by_cases q2 : pLet T' L p = 109
    · rw [if_pos q2, if_pos q2]
      unfold pUpP pPw
      rw [pNum_cg h, e1]
      exact ⟨rfl, e2, e3, e4, e5, fun c i c0 c1 i0 i1 => e6 c i c0 (by rw [e1]; exact c1) i0 i1, e7⟩
    · rw [if_neg q2, if_neg q2]
      by_cases q3 : pLet T' L p = 99
      · rw [if_pos q3, if_pos q3]
        unfold pUpC
        rw [pC1_cg h, pC2_cg h, pCm_cg h, e1, e2, e3, e4, e5, e7]
        refine ⟨rfl, rfl, rfl, by rw [pC3_cg h], rfl, fun c i c0 c1 i0 i1 => ?_, rfl⟩
        show (if c = S'.1.2.2.1 then T ((pC3 T L p).2 + i) - 48 else S.2.2.2.2.2.1 c i) = (if c = S'.1.2.2.1 then T' ((pC3 T' L p).2 + i) - 48 else S'.2.2.2.2.2.1 c i)
        by_cases q : c = S'.1.2.2.1
        · rw [if_pos q, if_pos q, pC3_cg h]
          have i1 : i < pu S'.2.2.2.2.1 S'.1.2.2.1 (pCm T' L p) c := i1
          rw [q, pu_i] at i1
          have f := pRun_pos (T := T') (L := L) (p := (pC3 T' L p).2) 6 i i0 i1
          have g := pFig_in (T := T') (L := L) (p := (pC3 T' L p).2 + i) (by omega)
          rw [h _ g.1.1 g.1.2]
        · rw [if_neg q, if_neg q]
          have i1 : i < pu S'.2.2.2.2.1 S'.1.2.2.1 (pCm T' L p) c := i1
          rw [pu_n q, ← e5] at i1
          have c1 : c < S'.1.2.2.1 + 1 := c1
          exact e6 c i c0 (by rw [e1]; omega) i0 i1
      · rw [if_neg q3, if_neg q3]
        unfold pUpR
        rw [er1, er2, e1, e2, e3, e4, e5, e7]
        exact ⟨rfl, rfl, rfl, rfl, rfl, fun c i c0 c1 i0 i1 => e6 c i c0 (by rw [e1]; exact c1) i0 (by rw [e5]; exact i1), rfl⟩
theorem pParse_cg (h : ∀ p, 0 ≤ p → p < L → T p = T' p) : ∀ (f : Nat) (S S' : pS) (p : Int), pEq S S' → (pParse T L f S p).1 = (pParse T' L f S' p).1 ∧ pEq (pParse T L f S p).2 (pParse T' L f S' p).2 := by
  intro f
  induction f with
  | zero => exact fun S S' p e => ⟨rfl, e⟩
  | succ f ih =>
    intro S S' p e
    show (if L ≤ p then ((-4 : Int), S) else if pIok T L S p then pParse T L f (pUp T L S p) (pNx T L S p) else (p, S)).1 = (if L ≤ p then ((-4 : Int), S') else if pIok T' L S' p then pParse T' L f (pUp T' L S' p) (pNx T' L S' p) else (p, S')).1 ∧ pEq (if L ≤ p then ((-4 : Int), S) else if pIok T L S p then pParse T L f (pUp T L S p) (pNx T L S p) else (p, S)).2 (if L ≤ p then ((-4 : Int), S') else if pIok T' L S' p then pParse T' L f (pUp T' L S' p) (pNx T' L S' p) else (p, S')).2
    by_cases q : L ≤ p
    · rw [if_pos q, if_pos q]
      exact ⟨rfl, e⟩
    · rw [if_neg q, if_neg q]
      by_cases q2 : pIok T' L S' p
      · rw [if_pos q2, if_pos ((pIok_cg h e p).mpr q2), pNx_cg h e]
        exact ih _ _ _ (pUp_cg h e p)
      · rw [if_neg q2, if_neg (fun z => q2 ((pIok_cg h e p).mp z))]
        exact ⟨rfl, e⟩
end ZP
