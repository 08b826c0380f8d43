/-! words for the state: sums, first places, the cells of a plan -/
/-- the sum of f over 0 .. n - 1 -/
def zsum (f : Int → Int) : Nat → Int
  | 0 => 0
  | n + 1 => zsum f n + f n
/-- the first i below n with P, or -4 -/
def zfirst (P : Int → Bool) : Nat → Int
  | 0 => -4
  | n + 1 => if zfirst P n = -4 then (if P n then (n : Int) else -4) else zfirst P n
theorem zfirst_spec (P : Int → Bool) : ∀ n : Nat, (zfirst P n = -4 ∧ ∀ i : Int, 0 ≤ i → i < n → P i = false) ∨ (0 ≤ zfirst P n ∧ zfirst P n < n ∧ P (zfirst P n) = true ∧ ∀ i : Int, 0 ≤ i → i < zfirst P n → P i = false) := by
  intro n
  induction n with
  | zero => exact Or.inl ⟨rfl, fun i h0 h1 => absurd h1 (by omega)⟩
  | succ n ih =>
    rcases ih with ⟨h1, h2⟩ | ⟨h1, h2, h3, h4⟩
    · by_cases hp : P (n : Int) = true
      · have e : zfirst P (n + 1) = (n : Int) := by
          show (if zfirst P n = -4 then (if P n then (n : Int) else -4) else zfirst P n) = _
          rw [if_pos h1, if_pos hp]
        refine Or.inr ?_
        rw [e]
        exact ⟨by omega, by omega, hp, fun i h0 hi => h2 i h0 hi⟩
      · have e : zfirst P (n + 1) = -4 := by
          show (if zfirst P n = -4 then (if P n then (n : Int) else -4) else zfirst P n) = _
          rw [if_pos h1, if_neg hp]
        refine Or.inl ⟨e, fun i h0 hi => ?_⟩
        by_cases h : i = (n : Int)
        · rw [h]
          simpa using hp
        · exact h2 i h0 (by omega)
    · have e : zfirst P (n + 1) = zfirst P n := by
        show (if zfirst P n = -4 then (if P n then (n : Int) else -4) else zfirst P n) = _
        rw [if_neg (by omega)]
      refine Or.inr ?_
      rw [e]
      exact ⟨h1, by omega, h3, h4⟩
/-- the value of zfirst by its marks -/
theorem zfirst_none {P : Int → Bool} {n : Nat} (h : ∀ i : Int, 0 ≤ i → i < n → P i = false) : zfirst P n = -4 := by
  rcases zfirst_spec P n with ⟨h1, -⟩ | ⟨h1, h2, h3, -⟩
  · exact h1
  · rw [h _ h1 h2] at h3
    cases h3
theorem zfirst_some {P : Int → Bool} {n : Nat} {k : Int} (h0 : 0 ≤ k) (h1 : k < n) (hk : P k = true) (h : ∀ i : Int, 0 ≤ i → i < k → P i = false) : zfirst P n = k := by
  rcases zfirst_spec P n with ⟨-, h2⟩ | ⟨g1, g2, g3, g4⟩
  · rw [h2 k h0 h1] at hk
    cases hk
  · by_cases a : zfirst P n < k
    · rw [h _ g1 a] at g3
      cases g3
    · by_cases b : k < zfirst P n
      · rw [g4 k h0 b] at hk
        cases hk
      · omega
theorem zsum_congr {f g : Int → Int} : ∀ {n : Nat}, (∀ i : Int, 0 ≤ i → i < n → f i = g i) → zsum f n = zsum g n := by
  intro n
  induction n with
  | zero => intro _; rfl
  | succ n ih =>
    intro h
    show zsum f n + f n = zsum g n + g n
    rw [ih (fun i h0 h1 => h i h0 (by omega)), h n (by omega) (by omega)]
theorem zsum_bounds {f : Int → Int} {a b : Int} : ∀ {n : Nat}, (∀ i : Int, 0 ≤ i → i < n → a ≤ f i ∧ f i ≤ b) → (n : Int) * a ≤ zsum f n ∧ zsum f n ≤ (n : Int) * b := by
  intro n
  induction n with
  | zero => intro _; simp [zsum]
  | succ n ih =>
    intro h
    have h1 := ih (fun i h0 h1 => h i h0 (by omega))
    have h2 := h n (by omega) (by omega)
    have e1 : ((n + 1 : Nat) : Int) * a = (n : Int) * a + a := by rw [Int.natCast_add, Int.add_mul]; simp
    have e2 : ((n + 1 : Nat) : Int) * b = (n : Int) * b + b := by rw [Int.natCast_add, Int.add_mul]; simp
    rw [e1, e2]
    show _ ≤ zsum f n + f n ∧ zsum f n + f n ≤ _
    omega
theorem zsum_succ (f : Int → Int) {c : Int} (h : 0 ≤ c) : zsum f (c + 1).toNat = zsum f c.toNat + f c := by
  rw [show (c + 1).toNat = c.toNat + 1 by omega]
  show zsum f c.toNat + f (c.toNat : Int) = _
  rw [Int.toNat_of_nonneg h]
-- the cells of the two plans
theorem zpl {p : Nat} (hp : p = 64 ∨ p = 86) : (zlay p).1 = 3 ∧ zlay (p + 1) = (20, 6) ∧ zlay (p + 2) = (20, 6) ∧ zlay (p + 3) = (20, 6) ∧ zlay (p + 4) = (20, 6) ∧ zlay (p + 5) = (20, 6) ∧ p < 110 := by
  rcases hp with rfl | rfl <;> decide
theorem zpr {p N : Nat} {R : zRef} (hp : p = 64 ∨ p = 86) (hW : zWir N R) (hN : 115 ≤ N) : R p 0 = some 34 ∧ R p 1 = some (p + 1) ∧ R p 2 = some (p + 2) ∧ R p 3 = some (p + 3) ∧ R p 4 = some (p + 4) ∧ R p 5 = some (p + 5) := by
  rcases hp with rfl | rfl
  · exact ⟨hW 64 0 _ (by omega) rfl, hW 64 1 _ (by omega) rfl, hW 64 2 _ (by omega) rfl, hW 64 3 _ (by omega) rfl, hW 64 4 _ (by omega) rfl, hW 64 5 _ (by omega) rfl⟩
  · exact ⟨hW 86 0 _ (by omega) rfl, hW 86 1 _ (by omega) rfl, hW 86 2 _ (by omega) rfl, hW 86 3 _ (by omega) rfl, hW 86 4 _ (by omega) rfl, hW 86 5 _ (by omega) rfl⟩
-- rows of rows
theorem zrowR {N o b m : Nat} {R : zRef} (hW : zWir N R) (ho : o < N) (h : ∀ k, k < m → zW0 o (Int.ofNat k) = some (b + k)) {c : Int} (h0 : 0 ≤ c) (h1 : c < m) : R o c = some (b + c.toNat) := by
  have h2 := hW o (Int.ofNat c.toNat) _ ho (h c.toNat (by omega))
  rwa [show Int.ofNat c.toNat = c from Int.toNat_of_nonneg h0] at h2
theorem zrowL {b m len : Nat} (h : ∀ k, k < m → zlay (b + k) = (20, len)) {c : Int} (h1 : c < m) (h0 : 0 ≤ c) : zlay (b + c.toNat) = (20, len) := h c.toNat (by omega)
theorem zmulb {a b A B : Int} (h1 : 0 ≤ a) (h2 : a ≤ A) (h3 : 0 ≤ b) (h4 : b ≤ B) : 0 ≤ a * b ∧ a * b ≤ A * B := ⟨Int.mul_nonneg h1 h3, Int.mul_le_mul h2 h4 h3 (by omega)⟩
theorem ztdiv2 {x : Int} (h : 0 ≤ x) : x.tdiv 2 = x / 2 := by rw [Int.tdiv_eq_ediv_of_nonneg h]
-- bits
def zbt (x a : Int) : Bool := decide (ziand (zishr x a) 1 = 1)
theorem zbt_cases : ∀ x : Fin 64, ∀ a : Fin 6, ziand (zishr (x : Nat) (a : Nat)) 1 = 0 ∨ ziand (zishr (x : Nat) (a : Nat)) 1 = 1 := by decide +kernel
theorem zbt_set_all : ∀ x : Fin 64, ∀ a : Fin 6, (0 ≤ zior (x : Nat) (zishl 1 (a : Nat)) ∧ zior (x : Nat) (zishl 1 (a : Nat)) < 64) ∧ ∀ b : Fin 6, zbt (zior (x : Nat) (zishl 1 (a : Nat))) (b : Nat) = (zbt (x : Nat) (b : Nat) || decide (b = a)) := by decide +kernel
theorem zshl_all : ∀ a : Fin 9, zishl 1 (a : Nat) = 2 ^ (a : Nat) := by decide +kernel
theorem zbt_zero_all : ∀ b : Fin 6, zbt 0 (b : Nat) = false := by decide +kernel
theorem zfinI {x : Int} {m : Nat} (h0 : 0 ≤ x) (h1 : x < m) : ∃ k : Fin m, x = ((k : Nat) : Int) := ⟨⟨x.toNat, by omega⟩, by simp; omega⟩
theorem zbt_set {x a : Int} (hx : 0 ≤ x ∧ x < 64) (ha : 0 ≤ a ∧ a < 6) : (0 ≤ zior x (zishl 1 a) ∧ zior x (zishl 1 a) < 64) ∧ ∀ b : Int, 0 ≤ b → b < 6 → zbt (zior x (zishl 1 a)) b = (zbt x b || decide (b = a)) := by
  obtain ⟨x, rfl⟩ := zfinI (m := 64) hx.1 hx.2
  obtain ⟨a, rfl⟩ := zfinI (m := 6) ha.1 ha.2
  refine ⟨(zbt_set_all x a).1, fun b h0 h1 => ?_⟩
  obtain ⟨b, rfl⟩ := zfinI (m := 6) h0 h1
  rw [(zbt_set_all x a).2 b]
  congr 1
  simp [Fin.ext_iff]
  omega
theorem zbt_zero {b : Int} (h0 : 0 ≤ b) (h1 : b < 6) : zbt 0 b = false := by
  obtain ⟨b, rfl⟩ := zfinI (m := 6) h0 h1
  exact zbt_zero_all b
theorem zshl1 {a : Int} (h0 : 0 ≤ a) (h1 : a < 9) : 1 ≤ zishl 1 a ∧ zishl 1 a ≤ 256 := by
  obtain ⟨a, rfl⟩ := zfinI (m := 9) h0 h1
  exact (show ∀ a : Fin 9, 1 ≤ zishl 1 (a : Nat) ∧ zishl 1 (a : Nat) ≤ 256 by decide +kernel) a
-- what a core takes
def tkOf (k p l : Int) : Int := if k = 0 then p * (l + 1) + l else if k = 1 then p * (l + 1) + l + p * l else if k = 2 then max (p * (l + 1) + l) 60 else (p * (l + 1) + l + p * l + 1) / 2
theorem tkOf_b {k p l : Int} (hp : 1 ≤ p ∧ p ≤ 20) (hl : 1 ≤ l ∧ l ≤ 54) : 2 ≤ tkOf k p l ∧ tkOf k p l ≤ 2234 := by
  have h1 := zmulb (a := p) (b := l) (A := 20) (B := 54) (by omega) hp.2 (by omega) hl.2
  have h2 : p * 1 ≤ p * l := Int.mul_le_mul (Int.le_refl p) hl.1 (by omega) (by omega)
  have e : p * (l + 1) = p * l + p := by rw [Int.mul_add, Int.mul_one]
  unfold tkOf
  rw [e]
  generalize p * l = z at *
  split
  · omega
  · split
    · omega
    · split <;> omega
-- a plan as plain functions: cores, lines, power; drawn, taken at a width, ahead; width, from, until
abbrev zS : Type := (Int × Int × Int) × (Int → Int) × (Int → Int → Int) × (Int → Int → Bool) × (Int → Int) × (Int → Int) × (Int → Int)
def sN (S : zS) : Int := S.1.1
def sL (S : zS) : Int := S.1.2.1
def sP (S : zS) : Int := S.1.2.2
def sD (S : zS) : Int → Int := S.2.1
def sT (S : zS) : Int → Int → Int := S.2.2.1
def sA (S : zS) : Int → Int → Bool := S.2.2.2.1
def sW (S : zS) : Int → Int := S.2.2.2.2.1
def sF (S : zS) : Int → Int := S.2.2.2.2.2.1
def sU (S : zS) : Int → Int := S.2.2.2.2.2.2
/-- in a cycle the lines taken (0), the power drawn (1), else the bits of the cores that run -/
def sUse (S : zS) (what t : Int) : Int := zsum (fun c => if 0 < sW S c ∧ sF S c ≤ t ∧ t < sU S c then (if what = 0 then sW S c else if what = 1 then sD S c else zishl 1 c) else 0) (sN S).toNat
/-- the first cycle from t on, ahead of en, in which more than most is used; -4 -/
def sOver (S : zS) (what most t en : Int) : Int := if zfirst (fun i => decide (most < sUse S what (t + i))) (en - t).toNat = -4 then -4 else t + zfirst (fun i => decide (most < sUse S what (t + i))) (en - t).toNat
def sNot (S : zS) (c t : Int) : Int := zfirst (fun a => sA S a c && (decide (¬ 0 < sW S a) || decide (t < sU S a))) (sN S).toNat
def sBeg (S : zS) (c en : Int) : Int := zfirst (fun b => sA S c b && (decide (0 < sW S b) && decide (sF S b < en))) (sN S).toNat
/-- the reason why a core at a width from a cycle on is refused (0: it is not), and what is told -/
def sRea (S : zS) (c w t : Int) : Int :=
  if ¬ sNot S c t = -4 then 1 else if ¬ sBeg S c (t + sT S c w) = -4 then 2 else if ¬ sOver S 0 (sL S - w) t (t + sT S c w) = -4 then 3 else if ¬ sOver S 1 (sP S - sD S c) t (t + sT S c w) = -4 then 4 else 0
def sTold (S : zS) (r c w t : Int) : Int :=
  if r = 1 then sNot S c t else if r = 2 then sBeg S c (t + sT S c w) else if r = 3 then sOver S 0 (sL S - w) t (t + sT S c w) else if r = 4 then sOver S 1 (sP S - sD S c) t (t + sT S c w) else -4
/-- the first cycle from which it is not refused, done ahead of by; -4 -/
def sSoon (S : zS) (c w y : Int) : Int := zfirst (fun t => decide (sRea S c w t = 0)) (y - sT S c w).toNat
/-- the width at which it is done first, from when, and when it is done: among the widths up to n, done ahead of y -/
def sFl (S : zS) (c y : Int) : Nat → Int × Int × Int
  | 0 => (0, 0, y)
  | n + 1 => if ¬ sSoon S c (n + 1) (sFl S c y n).2.2 = -4 then (n + 1, sSoon S c (n + 1) (sFl S c y n).2.2, sSoon S c (n + 1) (sFl S c y n).2.2 + sT S c (n + 1)) else sFl S c y n
def sLen (S : zS) : Nat → Int
  | 0 => 0
  | n + 1 => if 0 < sW S n then max (sLen S n) (sU S n) else sLen S n
/-- a core put -/
def sPut (S : zS) (c w t : Int) : zS := (S.1, S.2.1, S.2.2.1, S.2.2.2.1, (fun j => if j = c then w else sW S j), (fun j => if j = c then t else sF S j), (fun j => if j = c then t + sT S c w else sU S j))
-- the class's plan at p
def cS (I : zMem) (p : Nat) : zS := ((I 34 2, I 34 0, I 34 1), I 37, (fun c w => if 0 ≤ c ∧ c < 6 then tkOf (I (p + 1) c) (I 36 c) (I (49 + c.toNat) w) else 0), (fun a c => zbt (I (p + 5) c) a), I (p + 2), I (p + 3), I (p + 4))
/-- the chip that is laid -/
def zCh (I : zMem) : Prop := (1 ≤ I 34 2 ∧ I 34 2 ≤ 6) ∧ (1 ≤ I 34 0 ∧ I 34 0 ≤ 8) ∧ (1 ≤ I 34 1 ∧ I 34 1 ≤ 40) ∧ (0 ≤ I 34 3 ∧ I 34 3 ≤ 8) ∧
  (∀ c : Int, 0 ≤ c → c < I 34 2 → (1 ≤ I 36 c ∧ I 36 c ≤ 20) ∧ (1 ≤ I 37 c ∧ I 37 c ≤ 30) ∧ (1 ≤ I 38 c ∧ I 38 c ≤ 6) ∧ (∀ i : Int, 0 ≤ i → i < I 38 c → 1 ≤ I (40 + c.toNat) i ∧ I (40 + c.toNat) i ≤ 9) ∧ ∀ w : Int, 1 ≤ w → w ≤ I 34 0 → 1 ≤ I (49 + c.toNat) w ∧ I (49 + c.toNat) w ≤ 54) ∧
  (∀ b : Int, 0 ≤ b → b < I 34 3 → 0 ≤ I 46 b ∧ I 46 b < I 47 b ∧ I 47 b < I 34 2)
/-- a plan's cells -/
def zPl (I : zMem) (p : Nat) : Prop := ∀ c : Int, 0 ≤ c → c < I 34 2 → (0 ≤ I (p + 1) c ∧ I (p + 1) c ≤ 3) ∧ (0 ≤ I (p + 2) c ∧ I (p + 2) c ≤ I 34 0) ∧ (0 ≤ I (p + 3) c ∧ I (p + 3) c ≤ 1000000) ∧ (0 ≤ I (p + 4) c ∧ I (p + 4) c ≤ 1010000) ∧ (0 ≤ I (p + 5) c ∧ I (p + 5) c < 64)
theorem cS_T {I : zMem} {p : Nat} {c w : Int} (hc : 0 ≤ c ∧ c < 6) : sT (cS I p) c w = tkOf (I (p + 1) c) (I 36 c) (I (49 + c.toNat) w) := if_pos hc
