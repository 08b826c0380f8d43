/-! reading a text: as plain functions -/
def pLet (T : Int → Int) (L p : Int) : Int := if 0 ≤ p ∧ p < L then T p else -4
def pFig (T : Int → Int) (L p : Int) : Int := if (0 ≤ p ∧ p < L) ∧ 48 ≤ T p ∧ T p ≤ 57 then T p - 48 else -4
theorem pFig_b (T : Int → Int) (L p : Int) : -4 ≤ pFig T L p ∧ pFig T L p ≤ 9 ∧ (pFig T L p < 0 → pFig T L p = -4) := by
  unfold pFig
  split <;> omega
theorem pFig_in {T : Int → Int} {L p : Int} (h : ¬ pFig T L p = -4) : (0 ≤ p ∧ p < L) ∧ (48 ≤ T p ∧ T p ≤ 57) ∧ pFig T L p = T p - 48 := by
  unfold pFig at h ⊢
  by_cases q : (0 ≤ p ∧ p < L) ∧ 48 ≤ T p ∧ T p ≤ 57
  · rw [if_pos q]
    exact ⟨q.1, q.2, rfl⟩
  · rw [if_neg q] at h
    exact absurd rfl h
theorem pFig_out {T : Int → Int} {L p : Int} (h : pFig T L p = -4) : ¬ ((0 ≤ p ∧ p < L) ∧ 48 ≤ T p ∧ T p ≤ 57) := fun q => by
  unfold pFig at h
  rw [if_pos q] at h
  omega
/-- a number of one or two figures, and the sign behind it: the number, or -4; where one goes on -/
def pVal (T : Int → Int) (L p : Int) : Int := if pFig T L (p + 1) = -4 then pFig T L p else 10 * pFig T L p + pFig T L (p + 1)
def pEnd (T : Int → Int) (L p : Int) : Int := if pFig T L (p + 1) = -4 then p + 1 else p + 2
abbrev pNok (T : Int → Int) (L lo hi sg p : Int) : Prop := ¬ pFig T L p = -4 ∧ pLet T L (pEnd T L p) = sg ∧ lo ≤ pVal T L p ∧ pVal T L p ≤ hi
def pNum (T : Int → Int) (L lo hi sg p : Int) : Int × Int := if pNok T L lo hi sg p then (pVal T L p, pEnd T L p + 1) else (-4, p)
theorem pVal_b {T : Int → Int} {L p : Int} (h : ¬ pFig T L p = -4) : 0 ≤ pVal T L p ∧ pVal T L p ≤ 99 := by
  have h1 := pFig_b T L p
  have h2 := pFig_b T L (p + 1)
  unfold pVal
  split <;> omega
theorem pEnd_b (T : Int → Int) (L p : Int) : p + 1 ≤ pEnd T L p ∧ pEnd T L p ≤ p + 2 := by
  unfold pEnd
  split <;> omega
theorem pNum_ok {T : Int → Int} {L lo hi sg p : Int} (h : pNok T L lo hi sg p) : pNum T L lo hi sg p = (pVal T L p, pEnd T L p + 1) := if_pos h
theorem pNum_no {T : Int → Int} {L lo hi sg p : Int} (h : ¬ pNok T L lo hi sg p) : pNum T L lo hi sg p = (-4, p) := if_neg h
theorem pNum_b {T : Int → Int} {L lo hi sg p : Int} : (pNum T L lo hi sg p = (-4, p)) ∨ (pNok T L lo hi sg p ∧ (lo ≤ (pNum T L lo hi sg p).1 ∧ (pNum T L lo hi sg p).1 ≤ hi) ∧ (0 ≤ (pNum T L lo hi sg p).1 ∧ (pNum T L lo hi sg p).1 ≤ 99) ∧ p + 2 ≤ (pNum T L lo hi sg p).2 ∧ (pNum T L lo hi sg p).2 ≤ p + 3) := by
  by_cases h : pNok T L lo hi sg p
  · rw [pNum_ok h]
    have h1 := pVal_b h.1
    have h2 := pEnd_b T L p
    exact Or.inr ⟨h, h.2.2, h1, by show p + 2 ≤ pEnd T L p + 1; omega, by show pEnd T L p + 1 ≤ p + 3; omega⟩
  · exact Or.inl (pNum_no h)
/-- how many figures from 1 on there are from p, up to k -/
def pRun (T : Int → Int) (L p : Int) : Nat → Int
  | 0 => 0
  | k + 1 => if pRun T L p k = k ∧ 0 < pFig T L (p + k) then k + 1 else pRun T L p k
theorem pRun_b (T : Int → Int) (L p : Int) : ∀ k : Nat, 0 ≤ pRun T L p k ∧ pRun T L p k ≤ k := by
  intro k
  induction k with
  | zero => exact ⟨Int.le_refl _, Int.le_refl _⟩
  | succ k ih =>
    show 0 ≤ (if pRun T L p k = k ∧ 0 < pFig T L (p + k) then (k : Int) + 1 else pRun T L p k) ∧ (if pRun T L p k = k ∧ 0 < pFig T L (p + k) then (k : Int) + 1 else pRun T L p k) ≤ ((k + 1 : Nat) : Int)
    split <;> omega
theorem pRun_full {T : Int → Int} {L p : Int} : ∀ k : Nat, (∀ i : Int, 0 ≤ i → i < k → 0 < pFig T L (p + i)) → pRun T L p k = k := by
  intro k
  induction k with
  | zero => intro _; rfl
  | succ k ih =>
    intro h
    have h1 := ih (fun i h0 h1 => h i h0 (by omega))
    show (if pRun T L p k = k ∧ 0 < pFig T L (p + k) then (k : Int) + 1 else pRun T L p k) = _
    rw [if_pos ⟨h1, h k (by omega) (by omega)⟩]
    omega
/-- so many and the next is none -/
theorem pRun_eq {T : Int → Int} {L p m : Int} : ∀ k : Nat, 0 ≤ m → m ≤ k → (∀ i : Int, 0 ≤ i → i < m → 0 < pFig T L (p + i)) → (m < k → ¬ 0 < pFig T L (p + m)) → pRun T L p k = m := by
  intro k
  induction k with
  | zero =>
    intro h0 h1 _ _
    show (0 : Int) = m
    omega
  | succ k ih =>
    intro h0 h1 h2 h3
    by_cases e : m = (k : Int) + 1
    · have := pRun_full (T := T) (L := L) (p := p) (k + 1) (fun i i0 i1 => h2 i i0 (by omega))
      omega
    · have h4 := ih h0 (by omega) h2 (fun g => h3 (by omega))
      show (if pRun T L p k = k ∧ 0 < pFig T L (p + k) then (k : Int) + 1 else pRun T L p k) = m
      rw [h4]
      by_cases q : m = k ∧ 0 < pFig T L (p + k)
      · rw [q.1] at h3
        exact absurd q.2 (h3 (by omega))
      · rw [if_neg q]
theorem pRun_pos {T : Int → Int} {L p : Int} : ∀ k : Nat, ∀ i : Int, 0 ≤ i → i < pRun T L p k → 0 < pFig T L (p + i) := by
  intro k
  induction k with
  | zero =>
    intro i h0 h1
    have : i < (0 : Int) := h1
    omega
  | succ k ih =>
    intro i h0 h1
    have h1 : i < (if pRun T L p k = k ∧ 0 < pFig T L (p + k) then (k : Int) + 1 else pRun T L p k) := h1
    by_cases q : pRun T L p k = k ∧ 0 < pFig T L (p + k)
    · rw [if_pos q] at h1
      by_cases e : i = k
      · rw [e]
        exact q.2
      · exact ih i h0 (by omega)
    · rw [if_neg q] at h1
      exact ih i h0 h1
/-- what a text has told: lines, power, cores, rules; kinds, patterns, draws, chains, lengths; ahead, behind -/
abbrev pS : Type := (Int × Int × Int × Int) × (Int → Int) × (Int → Int) × (Int → Int) × (Int → Int) × (Int → Int → Int) × (Int → Int) × (Int → Int)
def pS0 : pS := ((4, 20, 0, 0), (fun _ => 0), (fun _ => 0), (fun _ => 0), (fun _ => 0), (fun _ _ => 0), (fun _ => 0), (fun _ => 0))
def pu (f : Int → Int) (i v : Int) : Int → Int := fun j => if j = i then v else f j
section PT
variable (T : Int → Int) (L : Int)
def pC1 (p : Int) : Int × Int := pNum T L 0 3 44 (p + 1)
def pC2 (p : Int) : Int × Int := pNum T L 1 20 44 (pC1 T L p).2
def pC3 (p : Int) : Int × Int := pNum T L 1 30 44 (pC2 T L p).2
def pCm (p : Int) : Int := pRun T L (pC3 T L p).2 6
abbrev pCok (S : pS) (p : Int) : Prop := S.1.2.2.1 < 6 ∧ ¬ (pC1 T L p).1 = -4 ∧ ¬ (pC2 T L p).1 = -4 ∧ ¬ (pC3 T L p).1 = -4 ∧ ¬ pCm T L p = 0 ∧ pLet T L ((pC3 T L p).2 + pCm T L p) = 59
def pR1 (S : pS) (p : Int) : Int × Int := pNum T L 0 (S.1.2.2.1 - 1) 44 (p + 1)
def pR2 (S : pS) (p : Int) : Int × Int := pNum T L 0 (S.1.2.2.1 - 1) 59 (pR1 T L S p).2
abbrev pRok (S : pS) (p : Int) : Prop := S.1.2.2.2 < 8 ∧ ¬ (pR1 T L S p).1 = -4 ∧ ¬ (pR2 T L S p).1 = -4 ∧ (pR1 T L S p).1 < (pR2 T L S p).1
def pLn (p : Int) : Int × Int := pNum T L 1 8 59 (p + 1)
def pPw (p : Int) : Int × Int := pNum T L 1 40 59 (p + 1)
abbrev pIok (S : pS) (p : Int) : Prop := (pLet T L p = 119 ∧ p = 0 ∧ ¬ (pLn T L p).1 = -4) ∨ (pLet T L p = 109 ∧ ¬ (pPw T L p).1 = -4) ∨ (pLet T L p = 99 ∧ pCok T L S p) ∨ (pLet T L p = 98 ∧ pRok T L S p)
def pNx (S : pS) (p : Int) : Int := if pLet T L p = 119 then (pLn T L p).2 else if pLet T L p = 109 then (pPw T L p).2 else if pLet T L p = 99 then (pC3 T L p).2 + pCm T L p + 1 else (pR2 T L S p).2
def pUpL (S : pS) (p : Int) : pS := (((pLn T L p).1, S.1.2), S.2)
def pUpP (S : pS) (p : Int) : pS := ((S.1.1, (pPw T L p).1, S.1.2.2), S.2)
def pUpC (S : pS) (p : Int) : pS := ((S.1.1, S.1.2.1, S.1.2.2.1 + 1, S.1.2.2.2), pu S.2.1 S.1.2.2.1 (pC1 T L p).1, pu S.2.2.1 S.1.2.2.1 (pC2 T L p).1, pu S.2.2.2.1 S.1.2.2.1 (pC3 T L p).1, pu S.2.2.2.2.1 S.1.2.2.1 (pCm T L p), (fun c i => if c = S.1.2.2.1 then T ((pC3 T L p).2 + i) - 48 else S.2.2.2.2.2.1 c i), S.2.2.2.2.2.2)
def pUpR (S : pS) (p : Int) : pS := ((S.1.1, S.1.2.1, S.1.2.2.1, S.1.2.2.2 + 1), S.2.1, S.2.2.1, S.2.2.2.1, S.2.2.2.2.1, S.2.2.2.2.2.1, pu S.2.2.2.2.2.2.1 S.1.2.2.2 (pR1 T L S p).1, pu S.2.2.2.2.2.2.2 S.1.2.2.2 (pR2 T L S p).1)
def pUp (S : pS) (p : Int) : pS := if pLet T L p = 119 then pUpL T L S p else if pLet T L p = 109 then pUpP T L S p else if pLet T L p = 99 then pUpC T L S p else pUpR T L S p
def pParse : Nat → pS → Int → Int × pS
  | 0, S, _ => (-4, S)
  | f + 1, S, p => if L ≤ p then (-4, S) else if pIok T L S p then pParse f (pUp T L S p) (pNx T L S p) else (p, S)
end PT
/-- what has been told is good -/
def pGood (S : pS) : Prop := (1 ≤ S.1.1 ∧ S.1.1 ≤ 8) ∧ (1 ≤ S.1.2.1 ∧ S.1.2.1 ≤ 40) ∧ (0 ≤ S.1.2.2.1 ∧ S.1.2.2.1 ≤ 6) ∧ (0 ≤ S.1.2.2.2 ∧ S.1.2.2.2 ≤ 8) ∧
  (∀ c : Int, 0 ≤ c → c < S.1.2.2.1 → (0 ≤ S.2.1 c ∧ S.2.1 c ≤ 3) ∧ (1 ≤ S.2.2.1 c ∧ S.2.2.1 c ≤ 20) ∧ (1 ≤ S.2.2.2.1 c ∧ S.2.2.2.1 c ≤ 30) ∧ (1 ≤ S.2.2.2.2.1 c ∧ S.2.2.2.2.1 c ≤ 6) ∧ ∀ i : Int, 0 ≤ i → i < S.2.2.2.2.1 c → 1 ≤ S.2.2.2.2.2.1 c i ∧ S.2.2.2.2.2.1 c i ≤ 9) ∧
  (∀ b : Int, 0 ≤ b → b < S.1.2.2.2 → 0 ≤ S.2.2.2.2.2.2.1 b ∧ S.2.2.2.2.2.2.1 b < S.2.2.2.2.2.2.2 b ∧ S.2.2.2.2.2.2.2 b < S.1.2.2.1)
theorem pGood0 : pGood pS0 := ⟨by decide, by decide, by decide, by decide, fun c h0 h1 => absurd h1 (by show ¬ c < 0; omega), fun c h0 h1 => absurd h1 (by show ¬ c < 0; omega)⟩
theorem pu_i {f : Int → Int} {i v : Int} : pu f i v i = v := if_pos rfl
theorem pu_n {f : Int → Int} {i v j : Int} (h : j ≠ i) : pu f i v j = f j := if_neg h
theorem pUpC_good {T : Int → Int} {L : Int} {S : pS} {p : Int} (h : pGood S) (hok : pCok T L S p) : pGood (pUpC T L S p) := by
  obtain ⟨h1, h2, h3, h4, h5, h6⟩ := h
  obtain ⟨k1, k2, k3, k4, k5, k6⟩ := hok
  have b1 := pNum_b (T := T) (L := L) (lo := 0) (hi := 3) (sg := 44) (p := p + 1)
  have b2 := pNum_b (T := T) (L := L) (lo := 1) (hi := 20) (sg := 44) (p := (pC1 T L p).2)
  have b3 := pNum_b (T := T) (L := L) (lo := 1) (hi := 30) (sg := 44) (p := (pC2 T L p).2)
  have b4 := pRun_b T L (pC3 T L p).2 6
  refine ⟨h1, h2, ⟨by show 0 ≤ S.1.2.2.1 + 1; omega, by show S.1.2.2.1 + 1 ≤ 6; omega⟩, h4, fun c c0 c1 => ?_, fun b b0 b1 => ?_⟩
  · have c1 : c < S.1.2.2.1 + 1 := c1
    show (0 ≤ pu S.2.1 S.1.2.2.1 (pC1 T L p).1 c ∧ pu S.2.1 S.1.2.2.1 (pC1 T L p).1 c ≤ 3) ∧ (1 ≤ pu S.2.2.1 S.1.2.2.1 (pC2 T L p).1 c ∧ pu S.2.2.1 S.1.2.2.1 (pC2 T L p).1 c ≤ 20) ∧ (1 ≤ pu S.2.2.2.1 S.1.2.2.1 (pC3 T L p).1 c ∧ pu S.2.2.2.1 S.1.2.2.1 (pC3 T L p).1 c ≤ 30) ∧ (1 ≤ pu S.2.2.2.2.1 S.1.2.2.1 (pCm T L p) c ∧ pu S.2.2.2.2.1 S.1.2.2.1 (pCm T L p) c ≤ 6) ∧ ∀ i : Int, 0 ≤ i → i < pu S.2.2.2.2.1 S.1.2.2.1 (pCm T L p) c → 1 ≤ (if c = S.1.2.2.1 then T ((pC3 T L p).2 + i) - 48 else S.2.2.2.2.2.1 c i) ∧ (if c = S.1.2.2.1 then T ((pC3 T L p).2 + i) - 48 else S.2.2.2.2.2.1 c i) ≤ 9
    by_cases e : c = S.1.2.2.1
    · rw [e, pu_i, pu_i, pu_i, pu_i]
      refine ⟨?_, ?_, ?_, ⟨by unfold pCm at *; omega, by unfold pCm at *; omega⟩, fun i i0 i1 => ?_⟩
      · rcases b1 with q | q
        · exact absurd (by unfold pC1; rw [q]) k2
        · exact q.2.1
      · rcases b2 with q | q
        · exact absurd (by unfold pC2; rw [q]) k3
        · exact q.2.1
      · rcases b3 with q | q
        · exact absurd (by unfold pC3; rw [q]) k4
        · exact q.2.1
      · rw [if_pos rfl]
        have g := pRun_pos (T := T) (L := L) (p := (pC3 T L p).2) 6 i i0 i1
        have g2 := pFig_in (T := T) (L := L) (p := (pC3 T L p).2 + i) (by omega)
        omega
    · rw [pu_n e, pu_n e, pu_n e, pu_n e]
      have g := h5 c c0 (by omega)
      refine ⟨g.1, g.2.1, g.2.2.1, g.2.2.2.1, fun i i0 i1 => ?_⟩
      rw [if_neg e]
      exact g.2.2.2.2 i i0 i1
  · have g := h6 b b0 b1
    refine ⟨g.1, g.2.1, ?_⟩
    show S.2.2.2.2.2.2.2 b < S.1.2.2.1 + 1
    omega
theorem pUpR_good {T : Int → Int} {L : Int} {S : pS} {p : Int} (h : pGood S) (hok : pRok T L S p) : pGood (pUpR T L S p) := by
  obtain ⟨h1, h2, h3, h4, h5, h6⟩ := h
  obtain ⟨k1, k2, k3, k4⟩ := hok
  have b1 := pNum_b (T := T) (L := L) (lo := 0) (hi := S.1.2.2.1 - 1) (sg := 44) (p := p + 1)
  have b2 := pNum_b (T := T) (L := L) (lo := 0) (hi := S.1.2.2.1 - 1) (sg := 59) (p := (pR1 T L S p).2)
  refine ⟨h1, h2, h3, ⟨by show 0 ≤ S.1.2.2.2 + 1; omega, by show S.1.2.2.2 + 1 ≤ 8; omega⟩, h5, fun b b0 b1' => ?_⟩
  have b1' : b < S.1.2.2.2 + 1 := b1'
  show 0 ≤ pu S.2.2.2.2.2.2.1 S.1.2.2.2 (pR1 T L S p).1 b ∧ pu S.2.2.2.2.2.2.1 S.1.2.2.2 (pR1 T L S p).1 b < pu S.2.2.2.2.2.2.2 S.1.2.2.2 (pR2 T L S p).1 b ∧ pu S.2.2.2.2.2.2.2 S.1.2.2.2 (pR2 T L S p).1 b < S.1.2.2.1
  by_cases e : b = S.1.2.2.2
  · rw [e, pu_i, pu_i]
    rcases b1 with q | q
    · exact absurd (by unfold pR1; rw [q]) k2
    · rcases b2 with r | r
      · exact absurd (by unfold pR2; rw [r]) k3
      · refine ⟨q.2.1.1, k4, ?_⟩
        have : (pR2 T L S p).1 ≤ S.1.2.2.1 - 1 := r.2.1.2
        omega
  · rw [pu_n e, pu_n e]
    exact h6 b b0 (by omega)
theorem pUp_good {T : Int → Int} {L : Int} {S : pS} {p : Int} (h : pGood S) (hok : pIok T L S p) : pGood (pUp T L S p) ∧ p + 2 ≤ pNx T L S p := by
  have hC : pCok T L S p → p + 2 ≤ (pC3 T L p).2 + pCm T L p + 1 := fun k => by
    have b1 := pNum_b (T := T) (L := L) (lo := 0) (hi := 3) (sg := 44) (p := p + 1)
    have b2 := pNum_b (T := T) (L := L) (lo := 1) (hi := 20) (sg := 44) (p := (pC1 T L p).2)
    have b3 := pNum_b (T := T) (L := L) (lo := 1) (hi := 30) (sg := 44) (p := (pC2 T L p).2)
    have b4 := pRun_b T L (pC3 T L p).2 6
    have c1 : p + 1 ≤ (pC1 T L p).2 := by
      rcases b1 with q | q
      · unfold pC1; rw [q]; exact Int.le_refl _
      · have : p + 1 + 2 ≤ (pC1 T L p).2 := q.2.2.2.1
        omega
    have c2 : (pC1 T L p).2 ≤ (pC2 T L p).2 := by
      rcases b2 with q | q
      · unfold pC2; rw [q]; exact Int.le_refl _
      · have : (pC1 T L p).2 + 2 ≤ (pC2 T L p).2 := q.2.2.2.1
        omega
    have c3 : (pC2 T L p).2 ≤ (pC3 T L p).2 := by
      rcases b3 with q | q
      · unfold pC3; rw [q]; exact Int.le_refl _
      · have : (pC2 T L p).2 + 2 ≤ (pC3 T L p).2 := q.2.2.2.1
        omega
    have b4 : 0 ≤ pCm T L p := b4.1
    omega
  rcases hok with ⟨k1, k2, k3⟩ | ⟨k1, k2⟩ | ⟨k1, k2⟩ | ⟨k1, k2⟩
  · unfold pUp pNx
    rw [if_pos k1, if_pos k1]
    obtain ⟨h1, h2, h3, h4, h5, h6⟩ := h
    rcases pNum_b (T := T) (L := L) (lo := 1) (hi := 8) (sg := 59) (p := p + 1) with q | q
    · exact absurd (by unfold pLn; rw [q]) k3
    · refine ⟨⟨q.2.1, h2, h3, h4, h5, h6⟩, ?_⟩
      have : p + 1 + 2 ≤ (pLn T L p).2 := q.2.2.2.1
      omega
  · unfold pUp pNx
    rw [if_neg (by omega), if_pos k1, if_neg (by omega), if_pos k1]
    obtain ⟨h1, h2, h3, h4, h5, h6⟩ := h
    rcases pNum_b (T := T) (L := L) (lo := 1) (hi := 40) (sg := 59) (p := p + 1) with q | q
    · exact absurd (by unfold pPw; rw [q]) k2
    · refine ⟨⟨h1, q.2.1, h3, h4, h5, h6⟩, ?_⟩
      have : p + 1 + 2 ≤ (pPw T L p).2 := q.2.2.2.1
      omega
  · unfold pUp pNx
    rw [if_neg (by omega), if_neg (by omega), if_pos k1, if_neg (by omega), if_neg (by omega), if_pos k1]
    exact ⟨pUpC_good h k2, hC k2⟩
  · unfold pUp pNx
    rw [if_neg (by omega), if_neg (by omega), if_neg (by omega), if_neg (by omega), if_neg (by omega), if_neg (by omega)]
    refine ⟨pUpR_good h k2, ?_⟩
    have b1 := pNum_b (T := T) (L := L) (lo := 0) (hi := S.1.2.2.1 - 1) (sg := 44) (p := p + 1)
    have b2 := pNum_b (T := T) (L := L) (lo := 0) (hi := S.1.2.2.1 - 1) (sg := 59) (p := (pR1 T L S p).2)
    have c1 : p + 1 ≤ (pR1 T L S p).2 := by
      rcases b1 with q | q
      · unfold pR1; rw [q]; exact Int.le_refl _
      · have : p + 1 + 2 ≤ (pR1 T L S p).2 := q.2.2.2.1
        omega
    rcases b2 with q | q
    · exact absurd (by unfold pR2; rw [q]) k2.2.2.1
    · have : (pR1 T L S p).2 + 2 ≤ (pR2 T L S p).2 := q.2.2.2.1
      omega
theorem pParse_good {T : Int → Int} {L : Int} : ∀ (f : Nat) (S : pS) (p : Int), pGood S → pGood (pParse T L f S p).2 := by
  intro f
  induction f with
  | zero => exact fun S p h => h
  | succ f ih =>
    intro S p h
    show pGood (if L ≤ p then ((-4 : Int), S) else if pIok T L S p then pParse T L f (pUp T L S p) (pNx T L S p) else (p, S)).2
    by_cases a : L ≤ p
    · rw [if_pos a]
      exact h
    · rw [if_neg a]
      by_cases b : pIok T L S p
      · rw [if_pos b]
        exact ih _ _ (pUp_good h b).1
      · rw [if_neg b]
        exact h
