/-! the text that the class begins with -/
def zT0 : Int → Int := zg [119, 52, 59, 109, 50, 48, 59, 99, 48, 44, 53, 44, 54, 44, 57, 52, 51, 51, 59, 99, 49, 44, 52, 44, 57, 44, 55, 50, 59, 99, 50, 44, 57, 44, 52, 44, 53, 53, 53, 49, 59, 99, 51, 44, 56, 44, 49, 49, 44, 56, 54, 52, 51, 59, 99, 48, 44, 49, 50, 44, 53, 44, 51, 49, 59, 98, 48, 44, 51, 59, 98, 49, 44, 52, 59]
def zP0' : Int × pS := pParse zT0 75 200 pS0 0
/-- its cells, looked at one by one -/
def zSame (S : pS) : Bool := decide (S.1 = (4, 20, 5, 2)) && (List.range 5).all (fun c => decide (S.2.1 (c : Int) = zS0.2.1 c) && decide (S.2.2.1 (c : Int) = zS0.2.2.1 c) && decide (S.2.2.2.1 (c : Int) = zS0.2.2.2.1 c) && decide (S.2.2.2.2.1 (c : Int) = zS0.2.2.2.2.1 c) && (List.range 6).all (fun i => decide ((i : Int) < zS0.2.2.2.2.1 c → S.2.2.2.2.2.1 (c : Int) (i : Int) = zS0.2.2.2.2.2.1 c i))) && (List.range 2).all (fun b => decide (S.2.2.2.2.2.2.1 (b : Int) = zS0.2.2.2.2.2.2.1 b) && decide (S.2.2.2.2.2.2.2 (b : Int) = zS0.2.2.2.2.2.2.2 b))
theorem zP0_ok : zP0'.1 = -4 ∧ zSame zP0'.2 = true := by decide +kernel
theorem zSame_laid {S : pS} {I : zMem} (h : zSame S = true) (hm : mLaid I zS0) : mLaid I S := by
  unfold zSame at h
  rw [Bool.and_eq_true, Bool.and_eq_true] at h
  obtain ⟨⟨h1, h2⟩, h3⟩ := h
  have h1 := of_decide_eq_true h1
  obtain ⟨⟨m1, m2, m3, m4⟩, m5, m6⟩ := hm
  refine ⟨by rw [h1]; exact ⟨m1, m2, m3, m4⟩, fun c c0 c1 => ?_, fun b b0 b1 => ?_⟩
  · rw [h1] at c1
    have c1 : c < 5 := c1
    have g := List.all_eq_true.mp h2 c.toNat (List.mem_range.mpr (by omega))
    rw [show ((c.toNat : Nat) : Int) = c by omega, Bool.and_eq_true, Bool.and_eq_true, Bool.and_eq_true, Bool.and_eq_true] at g
    obtain ⟨⟨⟨⟨g1, g2⟩, g3⟩, g4⟩, g5⟩ := g
    have g1 := of_decide_eq_true g1
    have g2 := of_decide_eq_true g2
    have g3 := of_decide_eq_true g3
    have g4 := of_decide_eq_true g4
    have l6 := zg_len c
    have m := m5 c c0 c1
    rw [g1, g2, g3, g4]
    refine ⟨m.1, m.2.1, m.2.2.1, m.2.2.2.1, fun i i0 i1 => ?_⟩
    have k := List.all_eq_true.mp g5 i.toNat (List.mem_range.mpr (by omega))
    rw [show ((i.toNat : Nat) : Int) = i by omega] at k
    rw [of_decide_eq_true k i1]
    exact m.2.2.2.2 i i0 i1
  · rw [h1] at b1
    have b1 : b < 2 := b1
    have g := List.all_eq_true.mp h3 b.toNat (List.mem_range.mpr (by omega))
    rw [show ((b.toNat : Nat) : Int) = b by omega, Bool.and_eq_true] at g
    rw [of_decide_eq_true g.1, of_decide_eq_true g.2]
    exact m6 b b0 b1
