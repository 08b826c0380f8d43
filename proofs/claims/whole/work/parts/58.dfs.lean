/-! the search against all orders -/
theorem sUse_put {S : zS} (hw : sWt S) {c w t : Int} (w0 : 0 ≤ w) (hc : ¬ 0 < sW S c) {what : Int} (h01 : what = 0 ∨ what = 1) (s : Int) : sUse S what s ≤ sUse (sPut S c w t) what s := by
  refine zsum_mono (fun j j0 j1 => ?_)
  show (if 0 < sW S j ∧ sF S j ≤ s ∧ s < sU S j then (if what = 0 then sW S j else if what = 1 then sD S j else zishl 1 j) else 0) ≤ (if 0 < (if j = c then w else sW S j) ∧ (if j = c then t else sF S j) ≤ s ∧ s < (if j = c then t + sT S c w else sU S j) then (if what = 0 then (if j = c then w else sW S j) else if what = 1 then sD S j else zishl 1 j) else 0)
  by_cases e : j = c
  · rw [if_neg (fun z => hc (by rw [← e]; exact z.1)), if_pos e, if_pos e, if_pos e]
    have hd := hw j j0 (by omega)
    by_cases q : 0 < w ∧ t ≤ s ∧ s < t + sT S c w
    · rw [if_pos q]
      rcases h01 with rfl | rfl
      · rw [if_pos rfl]
        exact w0
      · rw [if_neg (by decide), if_pos rfl]
        exact hd
    · rw [if_neg q]
      exact Int.le_refl _
  · rw [if_neg e, if_neg e, if_neg e]
    exact Int.le_refl _
/-- what may be put in the larger plan may be put in the smaller -/
theorem sOk_less {S : zS} (hw : sWt S) {c w t c' w' t' : Int} (w0' : 0 ≤ w') (hc' : ¬ 0 < sW S c') (hne : c ≠ c') (hwait : ∀ a : Int, 0 ≤ a → a < sN S → sA S a c = true → 0 < sW S a) (h : sOk (sPut S c' w' t') c w t) : sOk S c w t := by
  obtain ⟨h1, h2, h3, h4⟩ := h
  refine ⟨fun a a0 a1 a2 => ?_, fun b b0 b1 b2 b3 => ?_, fun s s0 s1 => ?_, fun s s0 s1 => ?_⟩
  · have g := hwait a a0 a1 a2
    have ne : a ≠ c' := fun e => hc' (by rw [← e]; exact g)
    have q := (h1 a a0 a1 a2).2
    have q : (if a = c' then t' + sT S c' w' else sU S a) ≤ t := q
    rw [if_neg ne] at q
    exact ⟨g, q⟩
  · have ne : b ≠ c' := fun e => hc' (by rw [← e]; exact b3)
    have q := h2 b b0 b1 b2 (by show 0 < (if b = c' then w' else sW S b); rw [if_neg ne]; exact b3)
    have q : t + sT S c w ≤ (if b = c' then t' else sF S b) := q
    rw [if_neg ne] at q
    exact q
  · have q := h3 s s0 s1
    have := sUse_put (S := S) hw (c := c') (w := w') (t := t') w0' hc' (what := 0) (Or.inl rfl) s
    have q : sUse (sPut S c' w' t') 0 s ≤ sL S - w := q
    omega
  · have q := h4 s s0 s1
    have := sUse_put (S := S) hw (c := c') (w := w') (t := t') w0' hc' (what := 1) (Or.inr rfl) s
    have q : sUse (sPut S c' w' t') 1 s ≤ sP S - sD S c := q
    omega
/-- filling one core ahead of y is as filling it at all -/
theorem sFl_same {S : zS} {c y Y : Int} {n : Nat} (hy : y ≤ Y) (h : ¬ (sFl S c y n).1 = 0) : sFl S c Y n = sFl S c y n := by
  obtain ⟨a1, a2, a3⟩ := sFl_spec (S := S) (c := c) (y := y) n
  obtain ⟨b1, b2, b3⟩ := sFl_spec (S := S) (c := c) (y := Y) n
  generalize sFl S c y n = z at *
  generalize sFl S c Y n = Z at *
  rcases a3 with a3 | ⟨a4, a5, a6, a7, a8, a9, a10⟩
  · exact absurd a3.1 h
  · have e1 := b2 z.1 z.2.1 a4 a5 a6 a7
    rcases b3 with b3 | ⟨b4, b5, b6, b7, b8, b9, b10⟩
    · omega
    · have e2 := a2 Z.1 Z.2.1 b4 b5 b6 b7
      have e3 : Z.2.2 = z.2.2 := by omega
      have e4 : Z.1 = z.1 := by
        by_cases q : Z.1 < z.1
        · have := a10 Z.1 Z.2.1 b4 q b6 b7
          omega
        · by_cases q2 : z.1 < Z.1
          · have := b10 z.1 z.2.1 a4 q2 a6 a7
            omega
          · omega
      have e5 : Z.2.1 = z.2.1 := by
        rw [e4] at b8
        omega
      exact Prod.ext e4 (Prod.ext e5 e3)
/-- the other way: what is done by y -/
theorem sFl_by {S : zS} {c y Y : Int} {n : Nat} (hy : y ≤ Y) (h : (sFl S c y n).1 = 0) : (sFl S c Y n).1 = 0 ∨ y ≤ (sFl S c Y n).2.2 := by
  obtain ⟨b1, b2, b3⟩ := sFl_spec (S := S) (c := c) (y := Y) n
  rcases b3 with b3 | ⟨b4, b5, b6, b7, b8, b9, b10⟩
  · exact Or.inl b3.1
  · obtain ⟨a1, a2, a3⟩ := sFl_spec (S := S) (c := c) (y := y) n
    rcases a3 with a3 | a3
    · have := a2 _ _ b4 b5 b6 b7
      exact Or.inr (by omega)
    · omega
theorem sLen_put {S : zS} {c w t : Int} (w0 : 0 < w) (hc : ¬ 0 < sW S c) : ∀ n : Nat, sLen (sPut S c w t) n = if 0 ≤ c ∧ c < n then max (sLen S n) (t + sT S c w) else sLen S n := by
  intro n
  induction n with
  | zero => rw [if_neg (by omega)]; rfl
  | succ n ih =>
    show (if 0 < (if (n : Int) = c then w else sW S n) then max (sLen (sPut S c w t) n) (if (n : Int) = c then t + sT S c w else sU S n) else sLen (sPut S c w t) n) = if 0 ≤ c ∧ c < ((n + 1 : Nat) : Int) then max (if 0 < sW S n then max (sLen S n) (sU S n) else sLen S n) (t + sT S c w) else (if 0 < sW S n then max (sLen S n) (sU S n) else sLen S n)
    rw [ih]
    by_cases e : (n : Int) = c
    · rw [if_pos e, if_pos e, if_pos w0, if_neg (by omega), if_pos (by omega), if_neg (by rw [e]; exact hc)]
    · rw [if_neg e, if_neg e]
      by_cases q : 0 ≤ c ∧ c < (n : Int)
      · rw [if_pos q, if_pos (show 0 ≤ c ∧ c < ((n + 1 : Nat) : Int) by omega)]
        by_cases g : 0 < sW S n
        · rw [if_pos g, if_pos g]
          omega
        · rw [if_neg g, if_neg g]
      · rw [if_neg q, if_neg (show ¬ (0 ≤ c ∧ c < ((n + 1 : Nat) : Int)) by omega)]
theorem zFs_put {S : zS} (hg : zGd S) (hf : zFs S) {c w t : Int} (c0 : 0 ≤ c) (c1 : c < sN S) (w0 : 1 ≤ w) (t0 : 0 ≤ t) (hc : ¬ 0 < sW S c) (ho : sOk S c w t) : zFs (sPut S c w t) := by
  obtain ⟨h1, h2, h3, h4⟩ := ho
  have use : ∀ (what s : Int), (what = 0 ∨ what = 1) → sUse (sPut S c w t) what s = sUse S what s + (if t ≤ s ∧ s < t + sT S c w then (if what = 0 then w else sD S c) else 0) := fun what s h01 => by
    have key : ∀ n : Nat, zsum (fun j => if 0 < (if j = c then w else sW S j) ∧ (if j = c then t else sF S j) ≤ s ∧ s < (if j = c then t + sT S c w else sU S j) then (if what = 0 then (if j = c then w else sW S j) else if what = 1 then sD S j else zishl 1 j) else 0) n = zsum (fun j => if 0 < sW S j ∧ sF S j ≤ s ∧ s < sU S j then (if what = 0 then sW S j else if what = 1 then sD S j else zishl 1 j) else 0) n + (if c < n then (if t ≤ s ∧ s < t + sT S c w then (if what = 0 then w else sD S c) else 0) else 0) := by
      intro n
      induction n with
      | zero =>
        rw [if_neg (by omega)]
        rfl
      | succ n ih =>
        show zsum _ n + _ = zsum _ n + _ + _
        rw [ih]
        dsimp only
        by_cases e : (n : Int) = c
        · rw [if_pos e, if_pos e, if_pos e, if_neg (show ¬ c < (n : Int) by omega), if_pos (show c < ((n + 1 : Nat) : Int) by omega), if_neg (show ¬ (0 < sW S n ∧ sF S n ≤ s ∧ s < sU S n) from fun z => hc (by rw [← e]; exact z.1))]
          by_cases q : t ≤ s ∧ s < t + sT S c w
          · rw [if_pos ⟨by omega, q⟩, if_pos q]
            rcases h01 with rfl | rfl
            · rw [if_pos rfl, if_pos rfl]
            · rw [if_neg (by decide), if_pos rfl, if_neg (by decide), e]
          · rw [if_neg (fun z => q z.2), if_neg q]
        · rw [if_neg e, if_neg e, if_neg e]
          by_cases q : c < (n : Int)
          · rw [if_pos q, if_pos (show c < ((n + 1 : Nat) : Int) by omega)]
            omega
          · rw [if_neg q, if_neg (show ¬ c < ((n + 1 : Nat) : Int) by omega)]
            omega
    have := key (sN S).toNat
    rw [if_pos (by omega)] at this
    exact this
  refine ⟨fun s => ⟨?_, ?_⟩, fun j j0 j1 jp a a0 a1 ha => ?_⟩
  · rw [use 0 s (Or.inl rfl), if_pos rfl]
    have b := (hf.1 s).1
    show _ ≤ sL S
    by_cases q : t ≤ s ∧ s < t + sT S c w
    · rw [if_pos q]
      have := h3 s q.1 q.2
      omega
    · rw [if_neg q]
      omega
  · rw [use 1 s (Or.inr rfl), if_neg (show ¬ (1 : Int) = 0 by decide)]
    have b := (hf.1 s).2
    show _ ≤ sP S
    by_cases q : t ≤ s ∧ s < t + sT S c w
    · rw [if_pos q]
      have := h4 s q.1 q.2
      omega
    · rw [if_neg q]
      omega
  · have ha : sA S a j = true := ha
    have jp : 0 < (if j = c then w else sW S j) := jp
    show 0 < (if a = c then w else sW S a) ∧ (if a = c then t + sT S c w else sU S a) ≤ (if j = c then t else sF S j)
    by_cases e : j = c
    · rw [if_pos e]
      rw [e] at ha
      have q := h1 a a0 a1 ha
      have ne : a ≠ c := fun z => hc (by rw [← z]; exact q.1)
      rw [if_neg ne, if_neg ne]
      exact q
    · rw [if_neg e] at jp ⊢
      have q := hf.2 j j0 j1 jp a a0 a1 ha
      by_cases e2 : a = c
      · rw [e2] at q
        exact absurd q.1 hc
      · rw [if_neg e2, if_neg e2]
        exact q
/-- put by a list: how long; -4 -/
def goL : zS → List Nat → Int
  | S, [] => sLen S (sN S).toNat
  | S, c :: l => if (sFl S (c : Int) 2000000 (sL S).toNat).1 = 0 then -4 else goL (sPut S (c : Int) (sFl S (c : Int) 2000000 (sL S).toNat).1 (sFl S (c : Int) 2000000 (sL S).toNat).2.1) l
/-- good, feasible, with so many cores left -/
def zMid (S : zS) (rem : List Nat) : Prop := zGd S ∧ zFs S ∧ (∀ c : Nat, c ∈ rem ↔ ((c : Int) < sN S ∧ ¬ 0 < sW S (c : Int))) ∧ rem.Nodup
theorem zMid_put {S : zS} {rem : List Nat} (h : zMid S rem) {c : Nat} (hc : c ∈ rem) (hz : ¬ (sFl S (c : Int) 2000000 (sL S).toNat).1 = 0) : zMid (sPut S (c : Int) (sFl S (c : Int) 2000000 (sL S).toNat).1 (sFl S (c : Int) 2000000 (sL S).toNat).2.1) (rem.erase c) := by
  obtain ⟨h1, h2, h3, h4⟩ := h
  have cc := (h3 c).mp hc
  rcases (sFl_spec (S := S) (c := c) (y := 2000000) (sL S).toNat).2.2 with q | ⟨q1, q2, q3, q4, q5, q6, q7⟩
  · exact absurd q.1 hz
  · refine ⟨sFl_gd h1 (by omega) cc.1 hz, zFs_put h1 h2 (by omega) cc.1 q1 q3 cc.2 q4, fun j => ?_, h4.erase c⟩
    rw [h4.mem_erase_iff, h3 j]
    show _ ↔ ((j : Int) < sN S ∧ ¬ 0 < (if (j : Int) = (c : Int) then _ else sW S (j : Int)))
    by_cases e : j = c
    · rw [if_pos (by omega)]
      exact ⟨fun z => absurd e z.1, fun z => absurd q1 (by omega)⟩
    · rw [if_neg (by omega)]
      exact ⟨fun z => z.2, fun z => ⟨e, z⟩⟩
theorem lexL_mem : ∀ (f : Nat) (rem : List Nat) (p : List Nat), p ∈ lexL (f + 1) rem → ∃ c q, p = c :: q ∧ c ∈ rem ∧ q ∈ lexL f (rem.erase c) := by
  intro f rem p h
  have h : p ∈ rem.flatMap (fun c => (lexL f (rem.erase c)).map (fun p => c :: p)) := h
  rw [List.mem_flatMap] at h
  obtain ⟨c, hc, h⟩ := h
  rw [List.mem_map] at h
  obtain ⟨q, hq, rfl⟩ := h
  exact ⟨c, q, rfl, hc, hq⟩
/-- going on it grows no shorter, and is no shorter than the bounds -/
theorem goL_ge : ∀ (f : Nat) (S : zS) (rem : List Nat), zMid S rem → rem.length = f → ∀ p, p ∈ lexL f rem → goL S p = -4 ∨ (sLen S (sN S).toNat ≤ goL S p ∧ sGreat S ≤ goL S p ∧ goL S p ≤ 300000) := by
  intro f
  induction f with
  | zero =>
    intro S rem h hl p hp
    have hr : rem = [] := List.eq_nil_of_length_eq_zero hl
    have hp : p ∈ [[]] := hp
    rw [List.mem_singleton] at hp
    subst hp
    have hall : ∀ c : Int, 0 ≤ c → c < sN S → 0 < sW S c := fun c c0 c1 => by
      refine Classical.byContradiction (fun q => ?_)
      have := (h.2.2.1 c.toNat).mpr ⟨by omega, by rw [Int.toNat_of_nonneg c0]; exact q⟩
      rw [hr] at this
      cases this
    refine Or.inr ⟨Int.le_refl _, sGreat_le h.1 h.2.1 hall, sLen_le (by decide) _ (fun c c0 c1 cp => ?_)⟩
    have := zGd_U h.1 c0 (by omega) cp
    have := h.1.1
    omega
  | succ f ih =>
    intro S rem h hl p hp
    obtain ⟨c, q, rfl, hc, hq⟩ := lexL_mem f rem p hp
    show (if (sFl S (c : Int) 2000000 (sL S).toNat).1 = 0 then (-4 : Int) else goL (sPut S (c : Int) (sFl S (c : Int) 2000000 (sL S).toNat).1 (sFl S (c : Int) 2000000 (sL S).toNat).2.1) q) = -4 ∨ _
    have e : goL S (c :: q) = if (sFl S (c : Int) 2000000 (sL S).toNat).1 = 0 then (-4 : Int) else goL (sPut S (c : Int) (sFl S (c : Int) 2000000 (sL S).toNat).1 (sFl S (c : Int) 2000000 (sL S).toNat).2.1) q := rfl
    rw [e]
    by_cases hz : (sFl S (c : Int) 2000000 (sL S).toNat).1 = 0
    · exact Or.inl (if_pos hz)
    · rw [if_neg hz]
      have cc := (h.2.2.1 c).mp hc
      rcases ih _ _ (zMid_put h hc hz) (by rw [List.length_erase_of_mem hc]; omega) q hq with g | ⟨g1, g2, g3⟩
      · exact Or.inl g
      · refine Or.inr ⟨?_, g2, g3⟩
        have sp : 0 < (sFl S (c : Int) 2000000 (sL S).toNat).1 := by
          rcases (sFl_spec (S := S) (c := c) (y := 2000000) (sL S).toNat).2.2 with q | q
          · exact absurd q.1 hz
          · omega
        have lp := sLen_put (S := S) (t := (sFl S (c : Int) 2000000 (sL S).toNat).2.1) sp cc.2 (sN S).toNat
        rw [if_pos (by omega)] at lp
        have g1 : sLen (sPut S (c : Int) (sFl S (c : Int) 2000000 (sL S).toNat).1 (sFl S (c : Int) 2000000 (sL S).toNat).2.1) (sN S).toNat ≤ _ := g1
        omega
/-- a core that cannot be done ahead of m now will not be so later -/
theorem goL_late {m : Int} {c : Nat} : ∀ (f : Nat) (S : zS) (rem : List Nat), zMid S rem → rem.length = f → c ∈ rem → (∀ a : Int, 0 ≤ a → a < sN S → sA S a c = true → 0 < sW S a) → (∀ w t : Int, 1 ≤ w → w ≤ sL S → 0 ≤ t → sOk S c w t → m ≤ t + sT S c w) → ∀ p, p ∈ lexL f rem → goL S p = -4 ∨ m ≤ goL S p := by
  intro f
  induction f with
  | zero =>
    intro S rem h hl hc
    rw [List.eq_nil_of_length_eq_zero hl] at hc
    cases hc
  | succ f ih =>
    intro S rem h hl hc hwait hm p hp
    obtain ⟨j, q, rfl, hj, hq⟩ := lexL_mem f rem p hp
    have e : goL S (j :: q) = if (sFl S (j : Int) 2000000 (sL S).toNat).1 = 0 then (-4 : Int) else goL (sPut S (j : Int) (sFl S (j : Int) 2000000 (sL S).toNat).1 (sFl S (j : Int) 2000000 (sL S).toNat).2.1) q := rfl
    rw [e]
    by_cases hz : (sFl S (j : Int) 2000000 (sL S).toNat).1 = 0
    · exact Or.inl (if_pos hz)
    · rw [if_neg hz]
      have jj := (h.2.2.1 j).mp hj
      have hL := h.1.2.1
      have mid := zMid_put h hj hz
      have len : (rem.erase j).length = f := by rw [List.length_erase_of_mem hj]; omega
      rcases (sFl_spec (S := S) (c := j) (y := 2000000) (sL S).toNat).2.2 with r | ⟨r1, r2, r3, r4, r5, r6, r7⟩
      · exact absurd r.1 hz
      · by_cases ej : j = c
        · have em := hm (sFl S (j : Int) 2000000 (sL S).toNat).1 (sFl S (j : Int) 2000000 (sL S).toNat).2.1 r1 (by omega) r3 (by rw [← ej]; exact r4)
          rcases goL_ge f _ _ mid len q hq with g | ⟨g1, -, -⟩
          · exact Or.inl g
          · have lp := sLen_put (S := S) (t := (sFl S (j : Int) 2000000 (sL S).toNat).2.1) (show 0 < (sFl S (j : Int) 2000000 (sL S).toNat).1 by omega) jj.2 (sN S).toNat
            rw [if_pos (by omega)] at lp
            have g1 : sLen (sPut S (j : Int) (sFl S (j : Int) 2000000 (sL S).toNat).1 (sFl S (j : Int) 2000000 (sL S).toNat).2.1) (sN S).toNat ≤ _ := g1
            rw [← ej] at em
            exact Or.inr (by omega)
        · refine ih _ _ mid len (h.2.2.2.mem_erase_iff.mpr ⟨fun z => ej z.symm, hc⟩) (fun a a0 a1 ha => ?_) (fun w t w0 w1 t0 ho => hm w t w0 w1 t0 (sOk_less (zGd_wt h.1) (by omega) jj.2 (by omega) hwait ho)) q hq
          show 0 < (if a = (j : Int) then _ else sW S a)
          by_cases z : a = (j : Int)
          · rw [if_pos z]
            omega
          · rw [if_neg z]
            exact hwait a a0 a1 ha
