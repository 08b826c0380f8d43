/-! laying the chains: the longest first, each on the line that has least -/
/-- the lowest line of least load among the first n -/
def zamin (ld : Int → Int) : Nat → Int
  | 0 => 0
  | n + 1 => if ld n < ld (zamin ld n) then n else zamin ld n
theorem zamin_succ (ld : Int → Int) {l : Int} (h : 0 ≤ l) : zamin ld (l + 1).toNat = if ld l < ld (zamin ld l.toNat) then l else zamin ld l.toNat := by
  rw [show (l + 1).toNat = l.toNat + 1 by omega]
  show (if ld (l.toNat : Int) < ld (zamin ld l.toNat) then (l.toNat : Int) else zamin ld l.toNat) = _
  rw [Int.toNat_of_nonneg h]
theorem zamin_b (ld : Int → Int) : ∀ n : Nat, 0 < n → 0 ≤ zamin ld n ∧ zamin ld n < n := by
  intro n
  induction n with
  | zero => intro h; omega
  | succ n ih =>
    intro _
    show 0 ≤ (if ld n < ld (zamin ld n) then (n : Int) else zamin ld n) ∧ (if ld n < ld (zamin ld n) then (n : Int) else zamin ld n) < ((n + 1 : Nat) : Int)
    split
    · omega
    · by_cases hn : n = 0
      · subst hn
        show 0 ≤ (0 : Int) ∧ (0 : Int) < _
        omega
      · have := ih (by omega)
        omega
/-- the longest chain that is not laid, of several the lowest; -4 -/
def zbest (len la : Int → Int) : Nat → Int
  | 0 => -4
  | k + 1 => if la k < 0 ∧ (zbest len la k < 0 ∨ len (zbest len la k) < len k) then k else zbest len la k
theorem zbest_succ (len la : Int → Int) {k : Int} (h : 0 ≤ k) : zbest len la (k + 1).toNat = if la k < 0 ∧ (zbest len la k.toNat < 0 ∨ len (zbest len la k.toNat) < len k) then k else zbest len la k.toNat := by
  rw [show (k + 1).toNat = k.toNat + 1 by omega]
  show (if la (k.toNat : Int) < 0 ∧ (zbest len la k.toNat < 0 ∨ len (zbest len la k.toNat) < len (k.toNat : Int)) then (k.toNat : Int) else zbest len la k.toNat) = _
  rw [Int.toNat_of_nonneg h]
theorem zbest_spec (len la : Int → Int) : ∀ n : Nat, (zbest len la n = -4 ∧ ∀ k : Int, 0 ≤ k → k < n → 0 ≤ la k) ∨ (0 ≤ zbest len la n ∧ zbest len la n < n ∧ la (zbest len la n) < 0 ∧ ∀ k : Int, 0 ≤ k → k < n → la k < 0 → len k < len (zbest len la n) ∨ (len k = len (zbest len la n) ∧ zbest len la n ≤ k)) := by
  intro n
  induction n with
  | zero => exact Or.inl ⟨rfl, fun k h0 h1 => absurd h1 (by omega)⟩
  | succ n ih =>
    have e : zbest len la (n + 1) = if la n < 0 ∧ (zbest len la n < 0 ∨ len (zbest len la n) < len n) then (n : Int) else zbest len la n := rfl
    rw [e]
    by_cases g : la n < 0 ∧ (zbest len la n < 0 ∨ len (zbest len la n) < len n)
    · rw [if_pos g]
      refine Or.inr ⟨by omega, by omega, g.1, fun k h0 h1 h2 => ?_⟩
      by_cases hk : k = (n : Int)
      · subst hk
        exact Or.inr ⟨rfl, Int.le_refl _⟩
      · rcases ih with ⟨i1, i2⟩ | ⟨i1, i2, i3, i4⟩
        · have := i2 k h0 (by omega)
          omega
        · have := i4 k h0 (by omega) h2
          have := g.2
          omega
    · rw [if_neg g]
      rcases ih with ⟨i1, i2⟩ | ⟨i1, i2, i3, i4⟩
      · refine Or.inl ⟨i1, fun k h0 h1 => ?_⟩
        by_cases hk : k = (n : Int)
        · subst hk
          omega
        · exact i2 k h0 (by omega)
      · refine Or.inr ⟨i1, by omega, i3, fun k h0 h1 h2 => ?_⟩
        by_cases hk : k = (n : Int)
        · subst hk
          omega
        · exact i4 k h0 (by omega) h2
theorem zbest_eq {len la : Int → Int} {n : Nat} {r : Int} (h0 : 0 ≤ r) (h1 : r < n) (h2 : la r < 0) (h : ∀ k : Int, 0 ≤ k → k < n → la k < 0 → len k < len r ∨ (len k = len r ∧ r ≤ k)) : zbest len la n = r := by
  rcases zbest_spec len la n with ⟨i1, i2⟩ | ⟨i1, i2, i3, i4⟩
  · have := i2 r h0 h1
    omega
  · have a := h _ i1 i2 i3
    have b := i4 r h0 h1 h2
    omega
/-- loads, lines and the most, when t chains are laid -/
abbrev zLP : Type := (Int → Int) × (Int → Int) × Int
def zlay1 (len : Int → Int) (w : Nat) (z : zLP) (i : Int) : zLP := ((fun x => if x = zamin z.1 w then z.1 (zamin z.1 w) + len i else z.1 x), (fun x => if x = i then zamin z.1 w else z.2.1 x), max z.2.2 (z.1 (zamin z.1 w) + len i))
def zlp (len : Int → Int) (n w : Nat) : Nat → zLP
  | 0 => ((fun _ => 0), (fun _ => -4), 0)
  | t + 1 => zlay1 len w (zlp len n w t) (zbest len (zlp len n w t).2.1 n)
def zlq (len o : Int → Int) (w : Nat) : Nat → zLP
  | 0 => ((fun _ => 0), (fun _ => -4), 0)
  | t + 1 => zlay1 len w (zlq len o w t) (o t)
def zSrt (len o : Int → Int) (n : Int) : Prop := (∀ t : Int, 0 ≤ t → t < n → 0 ≤ o t ∧ o t < n) ∧ (∀ s t : Int, 0 ≤ s → s < t → t < n → len (o t) < len (o s) ∨ (len (o s) = len (o t) ∧ o s < o t)) ∧ (∀ k : Int, 0 ≤ k → k < n → ∃ s : Int, 0 ≤ s ∧ s < n ∧ o s = k)
theorem zlq_laid {len o : Int → Int} {w : Nat} (hw : 0 < w) : ∀ t : Nat, (∀ k : Int, 0 ≤ (zlq len o w t).2.1 k ↔ ∃ s : Int, 0 ≤ s ∧ s < t ∧ o s = k) := by
  intro t
  induction t with
  | zero =>
    intro k
    constructor
    · intro h
      have : (0 : Int) ≤ -4 := h
      omega
    · rintro ⟨s, h0, h1, -⟩
      omega
  | succ t ih =>
    intro k
    show 0 ≤ (if k = o t then zamin (zlq len o w t).1 w else (zlq len o w t).2.1 k) ↔ _
    by_cases hk : k = o t
    · rw [if_pos hk]
      exact ⟨fun _ => ⟨t, by omega, by omega, hk.symm⟩, fun _ => (zamin_b _ w hw).1⟩
    · rw [if_neg hk, ih k]
      constructor
      · rintro ⟨s, h0, h1, h2⟩
        exact ⟨s, h0, by omega, h2⟩
      · rintro ⟨s, h0, h1, h2⟩
        refine ⟨s, h0, ?_, h2⟩
        by_cases hs : s = t
        · rw [hs] at h2
          exact absurd h2.symm hk
        · omega
theorem zlq_eq {len o : Int → Int} {n w : Nat} (hw : 0 < w) (h : zSrt len o n) : ∀ t : Nat, t ≤ n → zlp len n w t = zlq len o w t := by
  obtain ⟨h1, h2, h3⟩ := h
  intro t
  induction t with
  | zero => intro _; rfl
  | succ t ih =>
    intro ht
    have e := ih (by omega)
    show zlay1 len w (zlp len n w t) (zbest len (zlp len n w t).2.1 n) = zlay1 len w (zlq len o w t) (o t)
    rw [e]
    congr 1
    have hot := h1 t (by omega) (by omega)
    refine zbest_eq hot.1 hot.2 ?_ (fun k k0 k1 k2 => ?_)
    · by_cases q : (zlq len o w t).2.1 (o t) < 0
      · exact q
      · obtain ⟨s, s0, s1, s2⟩ := (zlq_laid (len := len) (o := o) hw t (o t)).mp (by omega)
        have := h2 s t s0 s1 (by omega)
        rw [s2] at this
        omega
    · obtain ⟨s, s0, s1, rfl⟩ := h3 k k0 k1
      by_cases hs : s < t
      · have := (zlq_laid (len := len) (o := o) hw t (o s)).mpr ⟨s, s0, hs, rfl⟩
        omega
      · by_cases hst : s = t
        · rw [hst]
          exact Or.inr ⟨rfl, Int.le_refl _⟩
        · have := h2 t s (by omega) (by omega) s1
          omega
theorem zSrt_ins {len o o' : Int → Int} {i q : Int} (hi : 0 ≤ i) (h : zSrt len o i) (hq0 : 0 ≤ q) (hq1 : q ≤ i) (ha : ∀ s : Int, q ≤ s → s < i → len (o s) < len i) (hb : q = 0 ∨ len i ≤ len (o (q - 1))) (e1 : ∀ s : Int, 0 ≤ s → s < q → o' s = o s) (e2 : o' q = i) (e3 : ∀ s : Int, q < s → s ≤ i → o' s = o (s - 1)) : zSrt len o' (i + 1) := by
  obtain ⟨h1, h2, h3⟩ := h
  have hb2 : ∀ s : Int, 0 ≤ s → s < q → len i ≤ len (o s) := fun s s0 s1 => by
    rcases hb with q0 | q0
    · omega
    · by_cases hs : s = q - 1
      · rw [hs]
        exact q0
      · have := h2 s (q - 1) s0 (by omega) (by omega)
        omega
  refine ⟨fun t t0 t1 => ?_, fun s t s0 s1 t1 => ?_, fun k k0 k1 => ?_⟩
  · by_cases a : t < q
    · rw [e1 t t0 a]
      have := h1 t t0 (by omega)
      omega
    · by_cases b : t = q
      · rw [b, e2]
        omega
      · rw [e3 t (by omega) (by omega)]
        have := h1 (t - 1) (by omega) (by omega)
        omega
  · by_cases a : t < q
    · rw [e1 t (by omega) a, e1 s s0 (by omega)]
      exact h2 s t s0 s1 (by omega)
    · by_cases b : t = q
      · rw [b, e2, e1 s s0 (by omega)]
        have g1 := hb2 s s0 (by omega)
        have g2 := h1 s s0 (by omega)
        omega
      · rw [e3 t (by omega) (by omega)]
        by_cases a2 : s < q
        · rw [e1 s s0 a2]
          exact h2 s (t - 1) s0 (by omega) (by omega)
        · by_cases b2 : s = q
          · rw [b2, e2]
            exact Or.inl (ha (t - 1) (by omega) (by omega))
          · rw [e3 s (by omega) (by omega)]
            exact h2 (s - 1) (t - 1) (by omega) (by omega) (by omega)
  · by_cases hk : k = i
    · exact ⟨q, hq0, by omega, by rw [e2, hk]⟩
    · obtain ⟨s, s0, s1, s2⟩ := h3 k k0 (by omega)
      by_cases a : s < q
      · exact ⟨s, s0, by omega, by rw [e1 s s0 a, s2]⟩
      · exact ⟨s + 1, by omega, by omega, by rw [e3 (s + 1) (by omega) (by omega), show s + 1 - 1 = s by omega, s2]⟩
/-- how much a line may have -/
theorem zlq_b {len o : Int → Int} {w : Nat} {n : Int} (hw : 0 < w) (hl : ∀ i : Int, 0 ≤ i → i < n → 1 ≤ len i ∧ len i ≤ 9) (ho : ∀ t : Int, 0 ≤ t → t < n → 0 ≤ o t ∧ o t < n) : ∀ t : Nat, (t : Int) ≤ n → (∀ x : Int, 0 ≤ (zlq len o w t).1 x ∧ (zlq len o w t).1 x ≤ 9 * t) ∧ (0 ≤ (zlq len o w t).2.2 ∧ (zlq len o w t).2.2 ≤ 9 * t) ∧ (0 < t → 1 ≤ (zlq len o w t).2.2) := by
  intro t
  induction t with
  | zero => exact fun _ => ⟨fun x => ⟨Int.le_refl _, by show (0 : Int) ≤ _; omega⟩, ⟨Int.le_refl _, by show (0 : Int) ≤ _; omega⟩, fun h => by omega⟩
  | succ t ih =>
    intro ht
    obtain ⟨i1, i2, -⟩ := ih (by omega)
    have g := ho t (by omega) (by omega)
    have g2 := hl _ g.1 g.2
    have g3 := i1 (zamin (zlq len o w t).1 w)
    refine ⟨fun x => ?_, ?_, fun _ => ?_⟩
    · show 0 ≤ (if x = zamin (zlq len o w t).1 w then (zlq len o w t).1 (zamin (zlq len o w t).1 w) + len (o t) else (zlq len o w t).1 x) ∧ (if x = zamin (zlq len o w t).1 w then (zlq len o w t).1 (zamin (zlq len o w t).1 w) + len (o t) else (zlq len o w t).1 x) ≤ 9 * ((t + 1 : Nat) : Int)
      have g4 := i1 x
      split <;> omega
    · show 0 ≤ max (zlq len o w t).2.2 ((zlq len o w t).1 (zamin (zlq len o w t).1 w) + len (o t)) ∧ max (zlq len o w t).2.2 ((zlq len o w t).1 (zamin (zlq len o w t).1 w) + len (o t)) ≤ 9 * ((t + 1 : Nat) : Int)
      omega
    · show 1 ≤ max (zlq len o w t).2.2 ((zlq len o w t).1 (zamin (zlq len o w t).1 w) + len (o t))
      omega
theorem zlq_succ (len o : Int → Int) (w : Nat) {t : Int} (h : 0 ≤ t) : zlq len o w (t + 1).toNat = zlay1 len w (zlq len o w t.toNat) (o t) := by
  rw [show (t + 1).toNat = t.toNat + 1 by omega]
  show zlay1 len w (zlq len o w t.toNat) (o (t.toNat : Int)) = _
  rw [Int.toNat_of_nonneg h]
theorem zlp_succ (len : Int → Int) (n w : Nat) {t : Int} (h : 0 ≤ t) : zlp len n w (t + 1).toNat = zlay1 len w (zlp len n w t.toNat) (zbest len (zlp len n w t.toNat).2.1 n) := by
  rw [show (t + 1).toNat = t.toNat + 1 by omega]
  rfl
