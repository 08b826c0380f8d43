/-! the search: as a plain function, and its contract -/
set_option maxHeartbeats 4000000 in
set_option maxRecDepth 100000 in
theorem c_X0_greatest {G : zG} {d n o : Nat} {I : zMem} {R : zRef} {p : Nat} (ho : o = 70 ∨ o = 92) (hp : p = 64 ∨ p = 86) (hW : zWir n R) (hn : 115 ≤ n) (hch : zCh I) (hpl : zPl I p) : MT G mX0_greatest (d + 5) 0 0 [zR o, zR p] n I R (zP1 (fun r I' R' => r = sGreat (cS I p) ∧ (∀ b : Nat, b ≠ o + 1 → I' b = I b) ∧ R' = R)) := by
  refine MT.of (by decide +kernel) tX0_greatest_ok (Nat.le_of_ble_eq_true rfl) (fun hI0 => ?_)
  obtain ⟨hl0, hl1, hl2, hl3, hl4, hl5, hp1⟩ := zpl hp
  obtain ⟨hb0, hb1, hb2, hb3⟩ := zbo ho
  refine wp_ls (ls' := [some (zR o), some (zR p)]) rfl ?_
  have hsame : ∀ J : zMem, (∀ b : Nat, b ≠ o + 1 → J b = I b) → cS J p = cS I p ∧ zCh J ∧ zPl J p := fun J hf => ⟨cS_ext (hf _ (by omega)) (hf _ (by omega)) (hf _ (by omega)) (fun b _ _ => hf b (by omega)) (hf _ (by omega)) (hf _ (by omega)) (hf _ (by omega)) (hf _ (by omega)) (hf _ (by omega)), zCh_ext (fun b _ _ => hf b (by omega)) hch, zPl_ext (hf _ (by omega)) (hf _ (by omega)) (hf _ (by omega)) (hf _ (by omega)) (hf _ (by omega)) (hf _ (by omega)) hpl⟩
  obtain ⟨z1, z2, z3⟩ := sBounds_in hch hpl
  refine wp_aload_n (t := 0) rfl rfl ?_
  refine wp_aload_n (t := 1) rfl rfl ?_
  refine wp_vi (ci := 0) (c_X0_area (d := d + 1) ho hp hW hn hch hpl) (t := 2) rfl kX0_59 rfl rfl (by omega) (by first | rfl | assumption) ⟨_, _, rfl⟩ (Nat.le_of_ble_eq_true rfl) ⟨Nat.le_refl _, Nat.le_refl _⟩ (fun r2 I2 R2 c2 => ?_)
  refine wp_canon (fun hI1 => ?_)
  obtain ⟨rfl, rfl, rfl⟩ := c2
  refine wp_aload_n (t := 3) rfl rfl ?_
  refine wp_aload_n (t := 4) rfl rfl ?_
  refine wp_vi (ci := 0) (c_X0_path (d := d) ho hp hW hn hch hpl) (t := 5) rfl kX0_63 rfl rfl (by omega) (by first | rfl | assumption) ⟨_, _, rfl⟩ (Nat.le_of_ble_eq_true rfl) ⟨Nat.le_refl _, Nat.le_refl _⟩ (fun r7 I7 R7 c7 => ?_)
  refine wp_canon (fun hI2 => ?_)
  obtain ⟨rfl, hf7, rfl⟩ := c7
  obtain ⟨sm1, sm2, sm3⟩ := hsame I7 hf7
  refine wp_max (t := 6) rfl (wsL_law_r34_l (List.mem_of_getElem? (i := 4) rfl)) (by unfold zin; omega) (by unfold zin; omega) (Nat.le_of_ble_eq_true rfl) ⟨Nat.le_refl _, Nat.le_refl _⟩ ?_
  refine wp_aload_n (t := 7) rfl rfl ?_
  refine wp_aload_n (t := 8) rfl rfl ?_
  refine wp_vi (ci := 0) (c_X0_drawn (d := d) ho hp hW hn sm2 sm3) (t := 9) rfl kX0_66 rfl rfl (by omega) (by first | rfl | assumption) ⟨_, _, rfl⟩ (Nat.le_of_ble_eq_true rfl) ⟨Nat.le_refl _, Nat.le_refl _⟩ (fun r15 I15 R15 c15 => ?_)
  refine wp_canon (fun hI3 => ?_)
  obtain ⟨e15, rfl, rfl⟩ := c15
  rw [sm1] at e15
  subst e15
  refine wp_max (t := 10) rfl (wsL_law_r34_l (List.mem_of_getElem? (i := 4) rfl)) (by unfold zin; omega) (by unfold zin; omega) (Nat.le_of_ble_eq_true rfl) ⟨Nat.le_refl _, Nat.le_refl _⟩ ?_
  refine wp_ireturn (t := 11) rfl rfl ?_
  exact ⟨_, rfl, rfl, hf7, rfl⟩
/-- a core ahead of it that is not put; -4 -/
def sWait (S : zS) (c : Int) : Int := zfirst (fun a => sA S a c && decide (¬ 0 < sW S a)) (sN S).toNat
theorem sWait_iff {S : zS} {c : Int} : sWait S c = -4 ↔ ∀ a : Int, 0 ≤ a → a < sN S → sA S a c = true → 0 < sW S a := by
  unfold sWait
  constructor
  · intro h a h0 h1 h2
    rcases zfirst_spec (fun a => sA S a c && decide (¬ 0 < sW S a)) (sN S).toNat with ⟨-, g⟩ | ⟨g, -⟩
    · have := g a h0 (by omega)
      simp [h2] at this
      omega
    · omega
  · intro h
    refine zfirst_none (fun a h0 h1 => ?_)
    by_cases ha : sA S a c = true
    · have := h a h0 (by omega) ha
      simp [ha]
      omega
    · simp [ha]
abbrev tSt : Type := Int × (Int → Int)
def tLoop (rec : zS → (Int → Int) → Int → tSt → tSt) (fl : Int) (S : zS) (o : Int → Int) (dp len : Int) : Nat → tSt → tSt
  | 0, st => st
  | k + 1, st =>
    if 0 < sW S (sN S - (k + 1)) ∨ ¬ sWait S (sN S - (k + 1)) = -4 then tLoop rec fl S o dp len k st
    else if st.1 ≤ len ∨ st.1 ≤ fl then st
    else if (sFl S (sN S - (k + 1)) st.1 (sL S).toNat).1 = 0 then st
    else tLoop rec fl S o dp len k (rec (sPut S (sN S - (k + 1)) (sFl S (sN S - (k + 1)) st.1 (sL S).toNat).1 (sFl S (sN S - (k + 1)) st.1 (sL S).toNat).2.1) (fun j => if j = dp then sN S - (k + 1) else o j) (max len ((sFl S (sN S - (k + 1)) st.1 (sL S).toNat).2.1 + sT S (sN S - (k + 1)) (sFl S (sN S - (k + 1)) st.1 (sL S).toNat).1)) st)
/-- all orders that begin as o up to dp, f cores being left: the least length and the order kept so far -/
def tTry (fl : Int) : Nat → zS → (Int → Int) → Int → Int → tSt → tSt
  | 0, _, o, _, len, _ => (len, o)
  | f + 1, S, o, dp, len, st => tLoop (fun S' o' len' st' => tTry fl f S' o' (dp + 1) len' st') fl S o dp len (sN S).toNat st
theorem zand_not_all : ∀ x y : Fin 64, (ziand (x : Nat) (zixor (y : Nat) (-1)) = 0 ↔ ∀ a : Fin 6, zbt (x : Nat) (a : Nat) = true → zbt (y : Nat) (a : Nat) = true) := by decide +kernel
theorem zand_not {x y : Int} (hx : 0 ≤ x ∧ x < 64) (hy : 0 ≤ y ∧ y < 64) : ziand x (zixor y (-1)) = 0 ↔ ∀ a : Int, 0 ≤ a → a < 6 → zbt x a = true → zbt y a = true := by
  obtain ⟨x, rfl⟩ := zfinI (m := 64) hx.1 hx.2
  obtain ⟨y, rfl⟩ := zfinI (m := 64) hy.1 hy.2
  rw [zand_not_all x y]
  constructor
  · intro h a h0 h1
    obtain ⟨a, rfl⟩ := zfinI (m := 6) h0 h1
    exact h a
  · intro h a
    exact h (a : Nat) (by omega) (by omega)
