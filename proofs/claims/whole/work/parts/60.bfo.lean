/-! the search and the reference's best -/
theorem gRun_head (S : zS) (o : Int → Int) : ∀ k : Nat, gRun S o (k + 1) = if (sFl S (o 0) 2000000 (sL S).toNat).1 = 0 then (S, 0) else gRun (sPut S (o 0) (sFl S (o 0) 2000000 (sL S).toNat).1 (sFl S (o 0) 2000000 (sL S).toNat).2.1) (fun j => o (j + 1)) k := by
  intro k
  induction k with
  | zero =>
    show (if (1 : Int) = 0 then (S, (1 : Int)) else if (sFl S (o 0) 2000000 (sL S).toNat).1 = 0 then (S, 0) else _) = _
    rw [if_neg (by decide)]
    rfl
  | succ k ih =>
    have e : gRun S o (k + 1 + 1) = if (gRun S o (k + 1)).2 = 0 then gRun S o (k + 1) else if (sFl (gRun S o (k + 1)).1 (o ((k + 1 : Nat) : Int)) 2000000 (sL S).toNat).1 = 0 then ((gRun S o (k + 1)).1, (0 : Int)) else (sPut (gRun S o (k + 1)).1 (o ((k + 1 : Nat) : Int)) (sFl (gRun S o (k + 1)).1 (o ((k + 1 : Nat) : Int)) 2000000 (sL S).toNat).1 (sFl (gRun S o (k + 1)).1 (o ((k + 1 : Nat) : Int)) 2000000 (sL S).toNat).2.1, (1 : Int)) := rfl
    rw [e, ih]
    by_cases q : (sFl S (o 0) 2000000 (sL S).toNat).1 = 0
    · rw [if_pos q, if_pos q, if_pos rfl]
    · rw [if_neg q, if_neg q]
      rfl
theorem goL_gRun : ∀ (l : List Nat) (S : zS) (o : Int → Int), (∀ i : Nat, i < l.length → o (i : Int) = ((l.getD i 0 : Nat) : Int)) → goL S l = if (gRun S o l.length).2 = 0 then -4 else sLen (gRun S o l.length).1 (sN S).toNat := by
  intro l
  induction l with
  | nil =>
    intro S o _
    show sLen S (sN S).toNat = if (1 : Int) = 0 then _ else _
    rw [if_neg (by decide)]
    rfl
  | cons c l ih =>
    intro S o h
    have h0 : o 0 = (c : Int) := h 0 (by simp)
    rw [List.length_cons, gRun_head, h0]
    have e : goL S (c :: l) = if (sFl S (c : Int) 2000000 (sL S).toNat).1 = 0 then (-4 : Int) else goL (sPut S (c : Int) (sFl S (c : Int) 2000000 (sL S).toNat).1 (sFl S (c : Int) 2000000 (sL S).toNat).2.1) l := rfl
    rw [e]
    by_cases q : (sFl S (c : Int) 2000000 (sL S).toNat).1 = 0
    · rw [if_pos q, if_pos q, if_pos rfl]
    · rw [if_neg q, if_neg q]
      have := ih (sPut S (c : Int) (sFl S (c : Int) 2000000 (sL S).toNat).1 (sFl S (c : Int) 2000000 (sL S).toNat).2.1) (fun j => o (j + 1)) (fun i hi => by
        have := h (i + 1) (by simpa using hi)
        show o ((i : Int) + 1) = _
        rw [show ((i : Int) + 1) = ((i + 1 : Nat) : Int) by omega, this]
        rfl)
      rw [this]
      rfl
theorem gLen_goL {S : zS} {l : List Nat} (hl : l.length = (sN S).toNat) : gLen S (oL l) = goL S l := by
  have := goL_gRun l S (oL l) (fun i hi => by
    show ((l.getD ((i : Int)).toNat 0 : Nat) : Int) = _
    rw [show ((i : Int)).toNat = i by omega])
  rw [this, hl]
  rfl
/-- where all ahead are put and none behind is, a core can be put -/
theorem sFl_ex {S : zS} (h : zGd S) {c : Int} (c0 : 0 ≤ c) (c1 : c < sN S) (hah : ∀ a : Int, 0 ≤ a → a < sN S → sA S a c = true → 0 < sW S a) (hbe : ∀ b : Int, 0 ≤ b → b < sN S → sA S c b = true → ¬ 0 < sW S b) (hd : sD S c ≤ sP S) : ¬ (sFl S c 2000000 (sL S).toNat).1 = 0 := by
  have hN := h.1
  have hL := h.2.1
  have hU : ∀ a : Int, 0 ≤ a → a < sN S → 0 < sW S a → sU S a ≤ 300000 := fun a a0 a1 a2 => by
    have := zGd_U h a0 a1 a2
    omega
  have hz : ∀ what s : Int, 300000 ≤ s → sUse S what s ≤ 0 := fun what s hs => by
    refine Classical.byContradiction (fun q => ?_)
    obtain ⟨a, a0, a1, a2, a3, a4⟩ := sUse_pos (S := S) (what := what) (s := s) (by omega)
    have := hU a a0 a1 a2
    omega
  have ok : sOk S c 1 300000 := ⟨fun a a0 a1 a2 => ⟨hah a a0 a1 a2, hU a a0 a1 (hah a a0 a1 a2)⟩, fun b b0 b1 b2 b3 => absurd b3 (hbe b b0 b1 b2), fun s s0 s1 => by have := hz 0 s s0; omega, fun s s0 s1 => by have := hz 1 s s0; omega⟩
  obtain ⟨a1, a2, a3⟩ := sFl_spec (S := S) (c := c) (y := 2000000) (sL S).toNat
  have g := a2 1 300000 (by decide) (by omega) (by decide) ok
  have hT := (h.2.2.2 c c0 c1).2.1 1 (by decide) (by omega)
  rcases a3 with q | q
  · omega
  · omega
/-- by rising numbers all can be put -/
theorem gRun_id {S : zS} (h : zGd S) (h0 : ∀ c : Int, 0 ≤ c → c < sN S → sW S c = 0) (hd : ∀ c : Int, 0 ≤ c → c < sN S → sD S c ≤ sP S) : ∀ k : Nat, (k : Int) ≤ sN S → (gRun S (fun j => j) k).2 = 1 ∧ (∀ c : Int, 0 ≤ c → c < k → 0 < sW (gRun S (fun j => j) k).1 c) ∧ ∀ c : Int, (k : Int) ≤ c → sW (gRun S (fun j => j) k).1 c = sW S c := by
  intro k
  induction k with
  | zero => exact fun _ => ⟨rfl, fun c c0 c1 => absurd c1 (by omega), fun c _ => rfl⟩
  | succ k ih =>
    intro hk
    obtain ⟨i1, i2, i3⟩ := ih (by omega)
    have g := gRun_gd (o := fun j => j) h (fun k k0 k1 => ⟨k0, k1⟩) k (by omega)
    have s1 := (gRun_S1 S (fun j => j) k).1
    have kN : sN (gRun S (fun j => j) k).1 = sN S := by unfold sN; rw [s1]
    have kL : sL (gRun S (fun j => j) k).1 = sL S := by unfold sL; rw [s1]
    have kP : sP (gRun S (fun j => j) k).1 = sP S := by unfold sP; rw [s1]
    have kD : sD (gRun S (fun j => j) k).1 = sD S ∧ sA (gRun S (fun j => j) k).1 = sA S := by
      clear i1 i2 i3 g s1 kN kL kP hk ih
      induction k with
      | zero => exact ⟨rfl, rfl⟩
      | succ k ih =>
        have e : gRun S (fun j => j) (k + 1) = if (gRun S (fun j => j) k).2 = 0 then gRun S (fun j => j) k else if (sFl (gRun S (fun j => j) k).1 (k : Int) 2000000 (sL S).toNat).1 = 0 then ((gRun S (fun j => j) k).1, (0 : Int)) else (sPut (gRun S (fun j => j) k).1 (k : Int) (sFl (gRun S (fun j => j) k).1 (k : Int) 2000000 (sL S).toNat).1 (sFl (gRun S (fun j => j) k).1 (k : Int) 2000000 (sL S).toNat).2.1, (1 : Int)) := rfl
        rw [e]
        split
        · exact ih
        · split
          · exact ih
          · exact ih
    have ex := sFl_ex g (c := (k : Int)) (by omega) (by omega) (fun a a0 a1 a2 => i2 a a0 ((g.2.2.2 k (by omega) (by omega)).2.2.1 a a0 a1 a2)) (fun b b0 b1 b2 b3 => by
      have lt := (g.2.2.2 b b0 b1).2.2.1 k (by omega) (by omega) b2
      rw [i3 b (by omega), h0 b b0 (by omega)] at b3
      omega) (by rw [kD.1, kP]; exact hd k (by omega) (by omega))
    rw [kL] at ex
    have e : gRun S (fun j => j) (k + 1) = if (gRun S (fun j => j) k).2 = 0 then gRun S (fun j => j) k else if (sFl (gRun S (fun j => j) k).1 (k : Int) 2000000 (sL S).toNat).1 = 0 then ((gRun S (fun j => j) k).1, (0 : Int)) else (sPut (gRun S (fun j => j) k).1 (k : Int) (sFl (gRun S (fun j => j) k).1 (k : Int) 2000000 (sL S).toNat).1 (sFl (gRun S (fun j => j) k).1 (k : Int) 2000000 (sL S).toNat).2.1, (1 : Int)) := rfl
    rw [e, if_neg (by omega), if_neg ex]
    refine ⟨rfl, fun c c0 c1 => ?_, fun c c0 => ?_⟩
    · show 0 < (if c = (k : Int) then _ else sW (gRun S (fun j => j) k).1 c)
      by_cases q : c = (k : Int)
      · rw [if_pos q]
        rcases (sFl_spec (S := (gRun S (fun j => j) k).1) (c := k) (y := 2000000) (sL S).toNat).2.2 with r | r
        · exact absurd r.1 ex
        · omega
      · rw [if_neg q]
        exact i2 c c0 (by omega)
    · show (if c = (k : Int) then _ else sW (gRun S (fun j => j) k).1 c) = _
      rw [if_neg (by omega)]
      exact i3 c (by omega)
theorem bFo_ag {S S' : zS} (h : zAg S S') (hL : 0 ≤ sL S) (hN : 1 ≤ sN S ∧ sN S ≤ 6) : ∀ q : Nat, q ≤ zQn (sN S) + 1 → bFo S (sN S) q = bFo S' (sN S) q := by
  have z := zQn_it hN
  intro q
  induction q with
  | zero => exact fun _ => rfl
  | succ q ih =>
    intro hq
    have e : gLen S (itO (sN S) q) = gLen S' (itO (sN S) q) := gLen_ag h hL (by omega) (fun k k0 k1 => ⟨(z.2.1.1 q (by omega)).1 k k0 k1, rfl⟩)
    show bUpd S (itO (sN S) q) (bFo S (sN S) q) = bUpd S' (itO (sN S) q) (bFo S' (sN S) q)
    rw [ih (by omega)]
    unfold bUpd
    rw [e]
/-- where a core draws too much there is none -/
theorem gLen_none {S : zS} (hg : zGd S) {o : Int → Int} (hp : zPerm (sN S) o) {c : Int} (c0 : 0 ≤ c) (c1 : c < sN S) (hd : sP S < sD S c) (hon : ∃ k : Int, 0 ≤ k ∧ k < sN S ∧ o k = c) : gLen S o = -4 := by
  have key : ∀ k : Nat, (k : Int) ≤ sN S → (gRun S o k).2 = 0 ∨ (∀ j : Int, 0 ≤ j → j < k → o j ≠ c) := by
    intro k
    induction k with
    | zero => exact fun _ => Or.inr (fun j j0 j1 => absurd j1 (by omega))
    | succ k ih =>
      intro hk
      have g := gRun_gd hg hp.1 k (by omega)
      have s1 := (gRun_S1 S o k).1
      have kP : sP (gRun S o k).1 = sP S := by unfold sP; rw [s1]
      have kD : sD (gRun S o k).1 = sD S := by
        clear g s1 kP hk ih
        induction k with
        | zero => rfl
        | succ k ih =>
          have e : gRun S o (k + 1) = if (gRun S o k).2 = 0 then gRun S o k else if (sFl (gRun S o k).1 (o k) 2000000 (sL S).toNat).1 = 0 then ((gRun S o k).1, (0 : Int)) else (sPut (gRun S o k).1 (o k) (sFl (gRun S o k).1 (o k) 2000000 (sL S).toNat).1 (sFl (gRun S o k).1 (o k) 2000000 (sL S).toNat).2.1, (1 : Int)) := rfl
          rw [e]
          split
          · exact ih
          · split
            · exact ih
            · exact ih
      have e : gRun S o (k + 1) = if (gRun S o k).2 = 0 then gRun S o k else if (sFl (gRun S o k).1 (o k) 2000000 (sL S).toNat).1 = 0 then ((gRun S o k).1, (0 : Int)) else (sPut (gRun S o k).1 (o k) (sFl (gRun S o k).1 (o k) 2000000 (sL S).toNat).1 (sFl (gRun S o k).1 (o k) 2000000 (sL S).toNat).2.1, (1 : Int)) := rfl
      rw [e]
      by_cases q : (gRun S o k).2 = 0
      · rw [if_pos q]
        exact Or.inl q
      · rw [if_neg q]
        by_cases q2 : (sFl (gRun S o k).1 (o k) 2000000 (sL S).toNat).1 = 0
        · rw [if_pos q2]
          exact Or.inl rfl
        · rw [if_neg q2]
          rcases ih (by omega) with r | r
          · exact absurd r q
          · refine Or.inr (fun j j0 j1 => ?_)
            by_cases ej : j = k
            · rw [ej]
              intro ec
              rcases (sFl_spec (S := (gRun S o k).1) (c := o k) (y := 2000000) (sL S).toNat).2.2 with r | ⟨r1, r2, r3, r4, r5, r6, r7⟩
              · exact absurd r.1 q2
              · have ok := hp.1 k (by omega) (by omega)
                have kN : sN (gRun S o k).1 = sN S := by unfold sN; rw [s1]
                have kL : sL (gRun S o k).1 = sL S := by unfold sL; rw [s1]
                have hL := hg.2.1
                have hT := (g.2.2.2 (o k) ok.1 (by omega)).2.1 _ r1 (by omega)
                have := r4.2.2.2 _ (Int.le_refl _) (by omega)
                have nn := sUse_nn g (Or.inr rfl) (sFl (gRun S o k).1 (o k) 2000000 (sL S).toNat).2.1
                have ed : sD S (o k) = sD S c := by rw [ec]
                rw [kP, kD] at this
                omega
            · exact r j j0 (by omega)
  obtain ⟨k, k0, k1, k2⟩ := hon
  have hN := hg.1
  rcases key (sN S).toNat (by omega) with q | q
  · unfold gLen
    rw [if_pos q]
  · exact absurd k2 (q k k0 (by omega))
/-- an order of all tells each -/
theorem zPerm_on {N : Int} {o : Int → Int} (hN : 1 ≤ N ∧ N ≤ 6) (h : zPerm N o) : ∀ c : Int, 0 ≤ c → c < N → ∃ k : Int, 0 ≤ k ∧ k < N ∧ o k = c := by
  have once : ∀ (x : Int) (n : Nat), (n : Int) ≤ N → zsum (fun k => if o k = x then 1 else 0) n ≤ 1 ∧ (0 < zsum (fun k => if o k = x then 1 else 0) n → ∃ k : Int, 0 ≤ k ∧ k < n ∧ o k = x) := by
    intro x n
    induction n with
    | zero => exact fun _ => ⟨by show (0 : Int) ≤ 1; decide, fun q => absurd q (by show ¬ (0 : Int) < 0; decide)⟩
    | succ n ih =>
      intro hn
      obtain ⟨i1, i2⟩ := ih (by omega)
      show zsum (fun k => if o k = x then 1 else 0) n + (if o (n : Int) = x then 1 else 0) ≤ 1 ∧ (0 < zsum (fun k => if o k = x then 1 else 0) n + (if o (n : Int) = x then 1 else 0) → _)
      by_cases q : o (n : Int) = x
      · rw [if_pos q]
        refine ⟨?_, fun _ => ⟨n, by omega, by omega, q⟩⟩
        by_cases z : 0 < zsum (fun k => if o k = x then 1 else 0) n
        · obtain ⟨k, k0, k1, k2⟩ := i2 z
          have := h.2 k n k0 (by omega) (by omega) (by omega) (by rw [k2, q])
          omega
        · omega
      · rw [if_neg q, Int.add_zero]
        refine ⟨i1, fun z => ?_⟩
        obtain ⟨k, k0, k1, k2⟩ := i2 z
        exact ⟨k, k0, by omega, k2⟩
  intro c c0 c1
  refine Classical.byContradiction (fun hn => ?_)
  have t1 : zsum (fun k => zsum (fun x => if o k = x then (1 : Int) else 0) N.toNat) N.toNat = N := by
    rw [zsum_congr (g := fun _ => 1) (fun k k0 k1 => by
      have ok := h.1 k k0 (by omega)
      have := zind 1 (o k) (o k + 1) N.toNat ok.1 (by omega) (by omega)
      rw [show o k + 1 - o k = 1 by omega, Int.mul_one] at this
      refine Eq.trans (zsum_congr (fun x _ _ => ?_)) this
      show (if o k = x then (1 : Int) else 0) = if o k ≤ x ∧ x < o k + 1 then 1 else 0
      by_cases e : o k = x
      · rw [if_pos e, if_pos (by omega)]
      · rw [if_neg e, if_neg (by omega)])]
    have := zsum_bounds (a := 1) (b := 1) (n := N.toNat) (f := fun _ => 1) (fun _ _ _ => by omega)
    omega
  rw [zsum_swap] at t1
  have t2 := zsum_lt (f := fun x => zsum (fun k => if o k = x then (1 : Int) else 0) N.toNat) (g := fun _ => 1) (a := c) (n := N.toNat) (fun x _ _ => (once x N.toNat (by omega)).1) c0 (by omega) (by
    show zsum (fun k => if o k = c then (1 : Int) else 0) N.toNat + 1 ≤ 1
    have o1 := once c N.toNat (by omega)
    by_cases z : 0 < zsum (fun k => if o k = c then (1 : Int) else 0) N.toNat
    · obtain ⟨k, k0, k1, k2⟩ := o1.2 z
      exact absurd ⟨k, k0, by omega, k2⟩ hn
    · omega)
  have t3 := zsum_bounds (a := 1) (b := 1) (n := N.toNat) (f := fun _ => 1) (fun _ _ _ => by omega)
  omega
theorem bFo_none {S : zS} (hg : zGd S) {c : Int} (c0 : 0 ≤ c) (c1 : c < sN S) (hd : sP S < sD S c) : ∀ q : Nat, q ≤ zQn (sN S) + 1 → (bFo S (sN S) q).1 = -4 := by
  have z := zQn_it hg.1
  intro q
  induction q with
  | zero => exact fun _ => rfl
  | succ q ih =>
    intro hq
    have hp := z.2.1.1 q (by omega)
    have e := gLen_none hg hp c0 c1 hd (zPerm_on hg.1 hp c c0 c1)
    show (bUpd S (itO (sN S) q) (bFo S (sN S) q)).1 = -4
    unfold bUpd
    rw [e, if_neg (by omega)]
    exact ih (by omega)
/-- what the search finds is the reference's best -/
theorem tTry_bFo {S : zS} (h : zGd S) (h0 : ∀ c : Int, 0 ≤ c → c < sN S → sW S c = 0) (hd : ∀ c : Int, 0 ≤ c → c < sN S → sD S c ≤ sP S) (o bo : Int → Int) : (tTry (sGreat S) (sN S).toNat S o 0 0 (1000000, bo)).1 = (bFo S (sN S) (zQn (sN S) + 1)).1 ∧ (∀ k : Int, 0 ≤ k → k < sN S → (tTry (sGreat S) (sN S).toNat S o 0 0 (1000000, bo)).2 k = (bFo S (sN S) (zQn (sN S) + 1)).2 k) ∧ 0 ≤ (bFo S (sN S) (zQn (sN S) + 1)).1 ∧ (bFo S (sN S) (zQn (sN S) + 1)).1 ≤ 300000 := by
  have hN := h.1
  obtain ⟨f1, f2, f3, r, f4⟩ := pL_facts hN
  obtain ⟨z1, z2, z3⟩ := zQn_it hN
  have hu0 : ∀ what s : Int, sUse S what s ≤ 0 := fun what s => by
    refine Classical.byContradiction (fun q => ?_)
    obtain ⟨a, a0, a1, a2, a3, a4⟩ := sUse_pos (S := S) (what := what) (s := s) (by omega)
    have := h0 a a0 a1
    omega
  have hfs : zFs S := ⟨fun s => ⟨by have := hu0 0 s; have := h.2.1; omega, by have := hu0 1 s; have := h.2.2.1; omega⟩, fun c c0 c1 cp => by have := h0 c c0 c1; omega⟩
  have hmid : zMid S (List.range (sN S).toNat) := ⟨h, hfs, fun c => by
    rw [List.mem_range]
    constructor
    · intro q
      have := h0 c (by omega) (by omega)
      exact ⟨by omega, by omega⟩
    · intro q
      omega, List.nodup_range⟩
  have hfil : List.range (sN S).toNat = (List.range (sN S).toNat).filter (unp S) := by
    refine (List.filter_eq_self.mpr (fun c hc => ?_)).symm
    rw [List.mem_range] at hc
    exact decide_eq_true (by have := h0 c (by omega) (by omega); omega)
  have hlen : (0 : Int) = sLen S (sN S).toNat := by
    have g1 := (sLen_ge (S := S) (sN S).toNat).1
    have g2 := sLen_le (S := S) (B := 0) (Int.le_refl _) (sN S).toNat (fun c c0 c1 cp => by have := h0 c c0 (by omega); omega)
    omega
  have T := tTry_dF (sN S).toNat S (List.range (sN S).toNat) o 0 0 (1000000, bo) hmid hfil List.length_range (by omega) (Int.le_refl _) hlen rfl (by show (1000000 : Int) ≤ 2000000; decide) (fun q => by omega)
  rw [f3] at T
  -- the two folds go together
  have go : ∀ q : Nat, q ≤ (pL (sN S)).length → ((bFo S (sN S) q).1 = -4 ∧ (dF S o 0 (1000000, bo) ((pL (sN S)).take q)).1 = 1000000) ∨ ((0 ≤ (bFo S (sN S) q).1 ∧ (bFo S (sN S) q).1 ≤ 300000) ∧ (dF S o 0 (1000000, bo) ((pL (sN S)).take q)).1 = (bFo S (sN S) q).1 ∧ ∀ k : Int, 0 ≤ k → k < sN S → (dF S o 0 (1000000, bo) ((pL (sN S)).take q)).2 k = (bFo S (sN S) q).2 k) := by
    intro q
    induction q with
    | zero => exact fun _ => Or.inl ⟨rfl, rfl⟩
    | succ q ih =>
      intro hq
      have hq1 : q < (pL (sN S)).length := by omega
      have et : (pL (sN S)).take (q + 1) = (pL (sN S)).take q ++ [(pL (sN S)).getD q []] := by
        rw [List.take_succ_eq_append_getElem hq1, List.getD_eq_getElem?_getD, List.getElem?_eq_getElem hq1]
        rfl
      have pm : (pL (sN S)).getD q [] ∈ pL (sN S) := by
        rw [List.getD_eq_getElem?_getD, List.getElem?_eq_getElem hq1]
        exact List.getElem_mem hq1
      rw [List.all_eq_true] at f2
      have pk := pOk_perm (f2 _ pm)
      have e1 : gLen S (itO (sN S) q) = goL S ((pL (sN S)).getD q []) := by
        rw [← gLen_goL pk.2]
        exact gLen_ag (zAg_refl S) (by have := h.2.1; omega) (by omega) (fun k k0 k1 => ⟨(z2.1 q (by omega)).1 k k0 k1, z1 q hq1 k k0 k1⟩)
      have ge := goL_ge (sN S).toNat S _ hmid List.length_range _ (by rw [f3]; exact pm)
      rw [et, dF_append]
      show ((bUpd S (itO (sN S) q) (bFo S (sN S) q)).1 = -4 ∧ (dUp S o 0 (dF S o 0 (1000000, bo) ((pL (sN S)).take q)) ((pL (sN S)).getD q [])).1 = 1000000) ∨ ((0 ≤ (bUpd S (itO (sN S) q) (bFo S (sN S) q)).1 ∧ (bUpd S (itO (sN S) q) (bFo S (sN S) q)).1 ≤ 300000) ∧ (dUp S o 0 (dF S o 0 (1000000, bo) ((pL (sN S)).take q)) ((pL (sN S)).getD q [])).1 = (bUpd S (itO (sN S) q) (bFo S (sN S) q)).1 ∧ ∀ k : Int, 0 ≤ k → k < sN S → (dUp S o 0 (dF S o 0 (1000000, bo) ((pL (sN S)).take q)) ((pL (sN S)).getD q [])).2 k = (bUpd S (itO (sN S) q) (bFo S (sN S) q)).2 k)
      unfold bUpd dUp
      rw [e1]
      have i := ih (by omega)
      have same : ∀ k : Int, 0 ≤ k → k < sN S → oApp o 0 ((pL (sN S)).getD q []) k = itO (sN S) q k := fun k k0 k1 => by
        show (if k < 0 then o k else oL _ (k - 0)) = _
        rw [if_neg (by omega), Int.sub_zero, z1 q hq1 k k0 k1]
      generalize dF S o 0 (1000000, bo) ((pL (sN S)).take q) = a at *
      generalize bFo S (sN S) q = b at *
      generalize goL S ((pL (sN S)).getD q []) = g at *
      rw [← hlen] at ge
      by_cases gn : g = -4
      · rw [if_neg (by omega), if_neg (by omega)]
        exact i
      · have ge : 0 ≤ g ∧ g ≤ 300000 := by omega
        by_cases gl : g < a.1
        · have gb : b.1 < 0 ∨ g < b.1 := by omega
          rw [if_pos ⟨ge.1, gb⟩, if_pos ⟨ge.1, gl⟩]
          exact Or.inr ⟨ge, rfl, same⟩
        · have gb : ¬ (b.1 < 0 ∨ g < b.1) := by omega
          rw [if_neg (fun z => gb z.2), if_neg (fun z => gl z.2)]
          exact i
  have fin := go (pL (sN S)).length (Nat.le_refl _)
  rw [List.take_length, ← z3] at fin
  -- it is not none
  have first : 0 ≤ gLen S (itO (sN S) 0) := by
    have g := (gRun_id h h0 hd (sN S).toNat (by omega)).1
    have e : gLen S (itO (sN S) 0) = sLen (gRun S (fun j => j) (sN S).toNat).1 (sN S).toNat := by
      show (if (gRun S (fun j => j) (sN S).toNat).2 = 0 then (-4 : Int) else sLen (gRun S (fun j => j) (sN S).toNat).1 (sN S).toNat) = _
      rw [if_neg (by omega)]
    rw [e]
    exact (sLen_ge _).1
  have pos : ∀ q : Nat, 0 ≤ (bFo S (sN S) (q + 1)).1 := by
    intro q
    induction q with
    | zero =>
      show 0 ≤ (bUpd S (itO (sN S) 0) (-4, fun k => k)).1
      unfold bUpd
      rw [if_pos ⟨first, Or.inl (by show (-4 : Int) < 0; decide)⟩]
      exact first
    | succ q ih =>
      show 0 ≤ (bUpd S (itO (sN S) (q + 1)) (bFo S (sN S) (q + 1))).1
      unfold bUpd
      split
      · rename_i hh
        exact hh.1
      · exact ih
  have p := pos (zQn (sN S))
  rcases fin with fin | ⟨g1, g2, g3⟩
  · omega
  · exact ⟨T.1.trans g2, fun k k0 k1 => (T.2 k k0 k1).trans (g3 k k0 k1), g1.1, g1.2⟩
