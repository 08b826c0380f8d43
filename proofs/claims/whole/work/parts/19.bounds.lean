/-! the bounds from below -/
def zmxf (P : Int → Bool) (v : Int → Int) : Nat → Int
  | 0 => 0
  | n + 1 => if P n then max (zmxf P v n) (v n) else zmxf P v n
theorem zmxf_succ (P : Int → Bool) (v : Int → Int) {c : Int} (h : 0 ≤ c) : zmxf P v (c + 1).toNat = if P c then max (zmxf P v c.toNat) (v c) else zmxf P v c.toNat := by
  rw [show (c + 1).toNat = c.toNat + 1 by omega]
  show (if P (c.toNat : Int) then max (zmxf P v c.toNat) (v (c.toNat : Int)) else zmxf P v c.toNat) = _
  rw [Int.toNat_of_nonneg h]
theorem zmxf_congr {P P' : Int → Bool} {v v' : Int → Int} : ∀ {n : Nat}, (∀ i : Int, 0 ≤ i → i < n → P i = P' i ∧ v i = v' i) → zmxf P v n = zmxf P' v' n := by
  intro n
  induction n with
  | zero => intro _; rfl
  | succ n ih =>
    intro h
    have g := h n (by omega) (by omega)
    show (if P n then max (zmxf P v n) (v n) else zmxf P v n) = (if P' n then max (zmxf P' v' n) (v' n) else zmxf P' v' n)
    rw [ih (fun i h0 h1 => h i h0 (by omega)), g.1, g.2]
theorem zmxf_b {P : Int → Bool} {v : Int → Int} {B : Int} (hB : 0 ≤ B) : ∀ {n : Nat}, (∀ i : Int, 0 ≤ i → i < n → 0 ≤ v i ∧ v i ≤ B) → 0 ≤ zmxf P v n ∧ zmxf P v n ≤ B := by
  intro n
  induction n with
  | zero => intro _; exact ⟨Int.le_refl _, hB⟩
  | succ n ih =>
    intro h
    have g := h n (by omega) (by omega)
    have g2 := ih (fun i h0 h1 => h i h0 (by omega))
    show 0 ≤ (if P n then max (zmxf P v n) (v n) else zmxf P v n) ∧ (if P n then max (zmxf P v n) (v n) else zmxf P v n) ≤ B
    split <;> omega
/-- of each core below n the longest path that ends with it -/
def zup (ah : Int → Int → Bool) (le : Int → Int) : Nat → Int → Int
  | 0 => fun _ => 0
  | n + 1 => fun x => if x = n then zmxf (fun a => ah a n) (zup ah le n) n + le n else zup ah le n x
theorem zup_succ (ah : Int → Int → Bool) (le : Int → Int) {c : Int} (h : 0 ≤ c) (x : Int) : zup ah le (c + 1).toNat x = if x = c then zmxf (fun a => ah a c) (zup ah le c.toNat) c.toNat + le c else zup ah le c.toNat x := by
  rw [show (c + 1).toNat = c.toNat + 1 by omega]
  show (if x = (c.toNat : Int) then zmxf (fun a => ah a (c.toNat : Int)) (zup ah le c.toNat) c.toNat + le (c.toNat : Int) else zup ah le c.toNat x) = _
  rw [Int.toNat_of_nonneg h]
theorem zup_b {ah : Int → Int → Bool} {le : Int → Int} : ∀ n : Nat, (∀ c : Int, 0 ≤ c → c < n → 0 ≤ le c ∧ le c ≤ 2234) → ∀ x : Int, 0 ≤ zup ah le n x ∧ zup ah le n x ≤ 2234 * n := by
  intro n
  induction n with
  | zero => intro _ x; exact ⟨Int.le_refl _, Int.le_refl _⟩
  | succ n ih =>
    intro h x
    have g := ih (fun c h0 h1 => h c h0 (by omega))
    have g2 := h n (by omega) (by omega)
    have g3 := zmxf_b (P := fun a => ah a n) (v := zup ah le n) (B := 2234 * n) (n := n) (by omega) (fun i _ _ => g i)
    have g4 := g x
    show 0 ≤ (if x = n then zmxf (fun a => ah a n) (zup ah le n) n + le n else zup ah le n x) ∧ (if x = n then zmxf (fun a => ah a n) (zup ah le n) n + le n else zup ah le n x) ≤ 2234 * ((n + 1 : Nat) : Int)
    split <;> omega
theorem zminf_b {f : Int → Int} {A B : Int} (hA : 0 ≤ A) (hAB : A ≤ 1000000) : ∀ n : Nat, (∀ w : Int, 1 ≤ w → w ≤ n → A ≤ f w ∧ f w ≤ B) → A ≤ zminf f n ∧ zminf f n ≤ 1000000 ∧ (0 < n → zminf f n ≤ B) := by
  intro n
  induction n with
  | zero => intro _; exact ⟨hAB, Int.le_refl _, fun h => absurd h (by omega)⟩
  | succ n ih =>
    intro h
    have g := ih (fun w h0 h1 => h w h0 (by omega))
    have g2 := h (n + 1) (by omega) (by omega)
    show A ≤ min (zminf f n) (f (n + 1)) ∧ min (zminf f n) (f (n + 1)) ≤ 1000000 ∧ (0 < n + 1 → min (zminf f n) (f (n + 1)) ≤ B)
    omega
def sLeast (S : zS) (c : Int) : Int := zminf (sT S c) (sL S).toNat
def sArea (S : zS) : Int := (zsum (fun c => zminf (fun w => w * sT S c w) (sL S).toNat) (sN S).toNat + sL S - 1) / sL S
def sPath (S : zS) : Int := zmxf (fun _ => true) (zup (sA S) (sLeast S) (sN S).toNat) (sN S).toNat
def sDrawn (S : zS) : Int := (zsum (fun c => sLeast S c * sD S c) (sN S).toNat + sP S - 1) / sP S
def sGreat (S : zS) : Int := max (max (sArea S) (sPath S)) (sDrawn S)
set_option maxHeartbeats 4000000 in
set_option maxRecDepth 100000 in
theorem c_X0_upward {G : zG} {d n : Nat} {I : zMem} {R : zRef} {x y : Int} (hx : 0 ≤ x ∧ x ≤ 10000000) (hy : 1 ≤ y ∧ y ≤ 1000) : MT G mX0_upward d 0 0 [zI x, zI y] n I R (zP1 (fun r I' R' => r = (x + y - 1) / y ∧ I' = I ∧ R' = R)) := by
  refine MT.of (by decide +kernel) tX0_upward_ok (Nat.le_of_ble_eq_true rfl) (fun hI0 => ?_)
  refine wp_ls (ls' := [some (zI x), some (zI y)]) rfl ?_
  refine wp_iload_n (t := 0) rfl rfl ?_
  refine wp_iconst (t := 1) rfl ?_
  refine wp_icmp_ge (t := 2) (tgt := 10) rfl (by decide) (by first | assumption | exact hI0 _ _ | exact zin_and _ _ | (unfold zin; omega) | (unfold zin at *; omega)) (by first | assumption | exact hI0 _ _ | exact zin_and _ _ | (unfold zin; omega) | (unfold zin at *; omega)) (fun h2 => ?_) (fun h2 => ?_)
  · refine wp_iload_n (t := 5) rfl rfl ?_
    refine wp_iload_n (t := 6) rfl rfl ?_
    refine wp_iadd (t := 7) rfl ?_
    refine wp_iconst (t := 8) rfl ?_
    refine wp_isub (t := 9) rfl ?_
    refine wp_iload_n (t := 10) rfl rfl ?_
    refine wp_idiv (t := 11) rfl (by first | assumption | exact hI0 _ _ | exact zin_and _ _ | (unfold zin; omega) | (unfold zin at *; omega)) (by first | assumption | exact hI0 _ _ | exact zin_and _ _ | (unfold zin; omega) | (unfold zin at *; omega)) (by omega) ?_
    refine wp_ireturn (t := 12) rfl rfl ?_
    exact ⟨_, rfl, Int.tdiv_eq_ediv_of_nonneg (by omega), rfl, rfl⟩
  · exact absurd h2 (by omega)
theorem zbo {o : Nat} (ho : o = 70 ∨ o = 92) : (zlay o).1 = 0 ∧ zlay (o + 1) = (20, 6) ∧ o < 110 ∧ 70 ≤ o := by
  rcases ho with rfl | rfl <;> decide
theorem zbr {o N : Nat} {R : zRef} (ho : o = 70 ∨ o = 92) (hW : zWir N R) (hN : 115 ≤ N) : R o 0 = some 34 ∧ R o 1 = some (o + 1) := by
  rcases ho with rfl | rfl
  · exact ⟨hW 70 0 _ (by omega) rfl, hW 70 1 _ (by omega) rfl⟩
  · exact ⟨hW 92 0 _ (by omega) rfl, hW 92 1 _ (by omega) rfl⟩
set_option maxHeartbeats 4000000 in
set_option maxRecDepth 100000 in
theorem c_X0_area {G : zG} {d n o : Nat} {I : zMem} {R : zRef} {p : Nat} (ho : o = 70 ∨ o = 92) (hp : p = 64 ∨ p = 86) (hW : zWir n R) (hn : 115 ≤ n) (hch : zCh I) (hpl : zPl I p) : MT G mX0_area (d + 3) 0 0 [zR o, zR p] n I R (zP1 (fun r I' R' => r = sArea (cS I p) ∧ I' = I ∧ R' = R)) := by
  refine MT.of (by decide +kernel) tX0_area_ok (Nat.le_of_ble_eq_true rfl) (fun hI0 => ?_)
  obtain ⟨hl0, hl1, hl2, hl3, hl4, hl5, hp1⟩ := zpl hp
  obtain ⟨hr0, hr1, hr2, hr3, hr4, hr5⟩ := zpr hp hW hn
  obtain ⟨hb0, hb1, hb2, hb3⟩ := zbo ho
  obtain ⟨hq0, hq1⟩ := zbr ho hW hn
  obtain ⟨f1, f2, f3, f4, f5, f6⟩ := cS_facts hch hpl
  have hco := hch.1
  have hli := hch.2.1
  have hmul : ∀ c w : Int, 0 ≤ c → c < I 34 2 → 1 ≤ w → w ≤ I 34 0 → 0 ≤ w * sT (cS I p) c w ∧ w * sT (cS I p) c w ≤ 17872 := fun c w c0 c1 w0 w1 => by
    have hT := f5 c w c0 c1 w0 w1
    exact zmulb (A := 8) (B := 2234) (by omega) (by omega) (by omega) hT.2
  have hmin : ∀ c : Int, 0 ≤ c → c < I 34 2 → 0 ≤ zminf (fun w => w * sT (cS I p) c w) (I 34 0).toNat ∧ zminf (fun w => w * sT (cS I p) c w) (I 34 0).toNat ≤ 17872 := fun c c0 c1 => by
    have := zminf_b (f := fun w => w * sT (cS I p) c w) (A := 0) (B := 17872) (by omega) (by omega) (I 34 0).toNat (fun w w0 w1 => hmul c w c0 c1 w0 (by omega))
    omega
  have hsum := fun k : Nat => zsum_bounds (a := 0) (b := 17872) (n := k) (f := fun c => zminf (fun w => w * sT (cS I p) c w) (I 34 0).toNat)
  have key : ∀ (m : Nat) (c s : Int) (x4 x5 : Option zV), 0 ≤ c → c ≤ I 34 2 → (I 34 2 - c).toNat = m → s = zsum (fun c => zminf (fun w => w * sT (cS I p) c w) (I 34 0).toNat) c.toNat → WP G mX0_area (d + 3) 0 0 0 0 4 [some (zR o), some (zR p), some (zI s), some (zI c), x4, x5] [] n I R (zP1 (fun r I' R' => r = sArea (cS I p) ∧ I' = I ∧ R' = R)) := by
    intro m
    induction m with
    | zero =>
      intro c s x4 x5 h0 h1 hm hs
      have hsb := hsum c.toNat (fun i i0 i1 => hmin i i0 (by omega))
      rw [← hs] at hsb
      refine wp_iload_n (t := 4) rfl rfl ?_
      refine wp_aload_n (t := 5) rfl rfl ?_
      refine wp_getR (t := 6) (ji := 0) rfl fX0_15 rfl rfl (by omega) (by first | rfl | assumption) (by first | exact hW _ _ _ (by omega) rfl | assumption) ?_
      refine wp_getI (t := 7) (ji := 2) rfl fX0_19 rfl rfl (by omega) (by first | rfl | assumption) ?_
      refine wp_icmp_ge (t := 8) (tgt := 68) rfl (by decide) (by first | assumption | exact hI0 _ _ | exact zin_and _ _ | (unfold zin; omega) | (unfold zin at *; omega)) (by first | assumption | exact hI0 _ _ | exact zin_and _ _ | (unfold zin; omega) | (unfold zin at *; omega)) (fun h12 => ?_) (fun h12 => ?_)
      · refine wp_iload_n (t := 35) rfl rfl ?_
        refine wp_aload_n (t := 36) rfl rfl ?_
        refine wp_getR (t := 37) (ji := 0) rfl fX0_15 rfl rfl (by omega) (by first | rfl | assumption) (by first | exact hW _ _ _ (by omega) rfl | assumption) ?_
        refine wp_getI (t := 38) (ji := 0) rfl fX0_26 rfl rfl (by omega) (by first | rfl | assumption) ?_
        refine wp_si (c_X0_upward (d := d + 2) (by omega) (by omega)) (t := 39) rfl kX0_40 rfl rfl (Nat.le_of_ble_eq_true rfl) ⟨Nat.le_refl _, Nat.le_refl _⟩ (fun r76 I76 R76 c76 => ?_)
        refine wp_canon (fun hI1 => ?_)
        obtain ⟨rfl, rfl, rfl⟩ := c76
        refine wp_ireturn (t := 40) rfl rfl ?_
        exact ⟨_, rfl, by rw [hs, show c = I76 34 2 by omega]; rfl, rfl, rfl⟩
      · exact absurd h12 (by omega)
    | succ m ih =>
      intro c s x4 x5 h0 h1 hm hs
      have inner : ∀ (k : Nat) (w le : Int), 1 ≤ w → w ≤ I 34 0 + 1 → (I 34 0 + 1 - w).toNat = k → c < I 34 2 → le = zminf (fun w => w * sT (cS I p) c w) (w - 1).toNat → 0 ≤ le ∧ le ≤ 1000000 → WP G mX0_area (d + 3) 0 0 0 0 22 [some (zR o), some (zR p), some (zI s), some (zI c), some (zI le), some (zI w)] [] n I R (zP1 (fun r I' R' => r = sArea (cS I p) ∧ I' = I ∧ R' = R)) := by
        intro k
        induction k with
        | zero =>
          intro w le w0 w1 hk hc9 hle hb
          refine wp_iload (t := 13) rfl rfl ?_
          refine wp_aload_n (t := 14) rfl rfl ?_
          refine wp_getR (t := 15) (ji := 0) rfl fX0_15 rfl rfl (by omega) (by first | rfl | assumption) (by first | exact hW _ _ _ (by omega) rfl | assumption) ?_
          refine wp_getI (t := 16) (ji := 0) rfl fX0_26 rfl rfl (by omega) (by first | rfl | assumption) ?_
          refine wp_icmp_gt (t := 17) (tgt := 57) rfl (by decide) (by first | assumption | exact hI0 _ _ | exact zin_and _ _ | (unfold zin; omega) | (unfold zin at *; omega)) (by first | assumption | exact hI0 _ _ | exact zin_and _ _ | (unfold zin; omega) | (unfold zin at *; omega)) (fun h31 => ?_) (fun h31 => ?_)
          · refine wp_iload_n (t := 29) rfl rfl ?_
            refine wp_iload (t := 30) rfl rfl ?_
            refine wp_iadd (t := 31) rfl ?_
            refine wp_istore_n (t := 32) rfl (by decide) rfl ?_
            refine wp_iinc (t := 33) rfl rfl (by decide) rfl ?_
            refine wp_goto (t := 34) (tgt := 4) rfl (by decide) ?_
            refine ih (c + 1) _ _ _ (by omega) (by omega) (by omega) ?_
            rw [zsum_succ _ h0, ← hs, hle, show w - 1 = I 34 0 by omega]
          · exact absurd h31 (by omega)
        | succ k ihk =>
          intro w le w0 w1 hk hc9 hle hb
          have hwl : w < I 34 0 + 1 := by omega
          have hT := f5 c w h0 hc9 w0 (by show w ≤ I 34 0; omega)
          have hcc := hch.2.2.2.2.1 c h0 hc9
          have hlo := hcc.2.2.2.2 w w0 (by omega)
          have hmu := hmul c w h0 hc9 w0 (by omega)
          refine wp_iload (t := 13) rfl rfl ?_
          refine wp_aload_n (t := 14) rfl rfl ?_
          refine wp_getR (t := 15) (ji := 0) rfl fX0_15 rfl rfl (by omega) (by first | rfl | assumption) (by first | exact hW _ _ _ (by omega) rfl | assumption) ?_
          refine wp_getI (t := 16) (ji := 0) rfl fX0_26 rfl rfl (by omega) (by first | rfl | assumption) ?_
          refine wp_icmp_gt (t := 17) (tgt := 57) rfl (by decide) (by first | assumption | exact hI0 _ _ | exact zin_and _ _ | (unfold zin; omega) | (unfold zin at *; omega)) (by first | assumption | exact hI0 _ _ | exact zin_and _ _ | (unfold zin; omega) | (unfold zin at *; omega)) (fun h31 => ?_) (fun h31 => ?_)
          · exact absurd h31 (by omega)
          · refine wp_iload (t := 18) rfl rfl ?_
            refine wp_iload (t := 19) rfl rfl ?_
            refine wp_aload_n (t := 20) rfl rfl ?_
            refine wp_iload_n (t := 21) rfl rfl ?_
            refine wp_iload (t := 22) rfl rfl ?_
            refine wp_vi (ci := 3) (c_X3_takes (d := d) hp hW hn ⟨h0, by omega⟩ ⟨by omega, by omega⟩ ⟨by omega, by omega⟩ ⟨by omega, by omega⟩) (t := 23) rfl kX0_29 rfl rfl (by omega) (by first | rfl | assumption) ⟨_, _, rfl⟩ (Nat.le_of_ble_eq_true rfl) ⟨Nat.le_refl _, Nat.le_refl _⟩ (fun r42 I42 R42 c42 => ?_)
            refine wp_canon (fun hI1 => ?_)
            obtain ⟨rfl, rfl, rfl⟩ := c42
            refine wp_imul (t := 24) rfl ?_
            refine wp_min (t := 25) rfl (wsL_law_r33_l (List.mem_of_getElem? (i := 16) rfl)) (by first | assumption | exact hI1 _ _ | exact hI0 _ _ | exact zin_and _ _ | (unfold zin; omega) | (unfold zin at *; omega)) (by first | assumption | exact hI1 _ _ | exact hI0 _ _ | exact zin_and _ _ | (unfold zin; omega) | (unfold zin at *; omega)) (Nat.le_of_ble_eq_true rfl) ⟨Nat.le_refl _, Nat.le_refl _⟩ ?_
            refine wp_istore (t := 26) rfl (by decide) rfl ?_
            refine wp_iinc (t := 27) rfl rfl (by decide) rfl ?_
            refine wp_goto (t := 28) (tgt := 22) rfl (by decide) ?_
            refine ihk (w + 1) _ (by omega) (by omega) (by omega) hc9 ?_ (by omega)
            rw [show w + 1 - 1 = w by omega, zminf_succ _ w0, ← hle]
      refine wp_iload_n (t := 4) rfl rfl ?_
      refine wp_aload_n (t := 5) rfl rfl ?_
      refine wp_getR (t := 6) (ji := 0) rfl fX0_15 rfl rfl (by omega) (by first | rfl | assumption) (by first | exact hW _ _ _ (by omega) rfl | assumption) ?_
      refine wp_getI (t := 7) (ji := 2) rfl fX0_19 rfl rfl (by omega) (by first | rfl | assumption) ?_
      refine wp_icmp_ge (t := 8) (tgt := 68) rfl (by decide) (by first | assumption | exact hI0 _ _ | exact zin_and _ _ | (unfold zin; omega) | (unfold zin at *; omega)) (by first | assumption | exact hI0 _ _ | exact zin_and _ _ | (unfold zin; omega) | (unfold zin at *; omega)) (fun h12 => ?_) (fun h12 => ?_)
      · exact absurd h12 (by omega)
      · refine wp_ldc (1000000) (t := 9) rfl (wsL_law_r33_l (List.mem_of_getElem? (i := 14) rfl)) (by decide) ?_
        refine wp_istore (t := 10) rfl (by decide) rfl ?_
        refine wp_iconst (t := 11) rfl ?_
        refine wp_istore (t := 12) rfl (by decide) rfl ?_
        exact inner _ 1 1000000 (by omega) (by omega) rfl (by omega) rfl (by omega)
  refine wp_ls (ls' := [some (zR o), some (zR p), none, none, none, none]) rfl ?_
  refine wp_iconst (t := 0) rfl ?_
  refine wp_istore_n (t := 1) rfl (by decide) rfl ?_
  refine wp_iconst (t := 2) rfl ?_
  refine wp_istore_n (t := 3) rfl (by decide) rfl ?_
  exact key _ 0 0 _ _ (by omega) (by omega) rfl rfl
set_option maxHeartbeats 4000000 in
set_option maxRecDepth 100000 in
theorem c_X0_drawn {G : zG} {d n o : Nat} {I : zMem} {R : zRef} {p : Nat} (ho : o = 70 ∨ o = 92) (hp : p = 64 ∨ p = 86) (hW : zWir n R) (hn : 115 ≤ n) (hch : zCh I) (hpl : zPl I p) : MT G mX0_drawn (d + 4) 0 0 [zR o, zR p] n I R (zP1 (fun r I' R' => r = sDrawn (cS I p) ∧ I' = I ∧ R' = R)) := by
  refine MT.of (by decide +kernel) tX0_drawn_ok (Nat.le_of_ble_eq_true rfl) (fun hI0 => ?_)
  obtain ⟨hl0, hl1, hl2, hl3, hl4, hl5, hp1⟩ := zpl hp
  obtain ⟨hr0, hr1, hr2, hr3, hr4, hr5⟩ := zpr hp hW hn
  obtain ⟨hb0, hb1, hb2, hb3⟩ := zbo ho
  obtain ⟨hq0, hq1⟩ := zbr ho hW hn
  obtain ⟨f1, f2, f3, f4, f5, f6⟩ := cS_facts hch hpl
  have hco := hch.1
  have hli := hch.2.1
  have hpo := hch.2.2.1
  have hmin : ∀ c : Int, 0 ≤ c → c < I 34 2 → 0 ≤ sLeast (cS I p) c ∧ sLeast (cS I p) c ≤ 2234 := fun c c0 c1 => by
    have := zminf_b (f := sT (cS I p) c) (A := 0) (B := 2234) (by omega) (by omega) (I 34 0).toNat (fun w w0 w1 => by
      have := f5 c w c0 c1 w0 (by show w ≤ I 34 0; omega)
      omega)
    show 0 ≤ zminf (sT (cS I p) c) (I 34 0).toNat ∧ zminf (sT (cS I p) c) (I 34 0).toNat ≤ 2234
    omega
  have hmul : ∀ c : Int, 0 ≤ c → c < I 34 2 → 0 ≤ sLeast (cS I p) c * I 37 c ∧ sLeast (cS I p) c * I 37 c ≤ 67020 := fun c c0 c1 => by
    have g := hmin c c0 c1
    have g2 := (hch.2.2.2.2.1 c c0 c1).2.1
    exact zmulb (A := 2234) (B := 30) g.1 g.2 (by omega) g2.2
  have hsum := fun k : Nat => zsum_bounds (a := 0) (b := 67020) (n := k) (f := fun c => sLeast (cS I p) c * I 37 c)
  have key : ∀ (m : Nat) (c s : Int), 0 ≤ c → c ≤ I 34 2 → (I 34 2 - c).toNat = m → s = zsum (fun c => sLeast (cS I p) c * I 37 c) c.toNat → WP G mX0_drawn (d + 4) 0 0 0 0 4 [some (zR o), some (zR p), some (zI s), some (zI c)] [] n I R (zP1 (fun r I' R' => r = sDrawn (cS I p) ∧ I' = I ∧ R' = R)) := by
    intro m
    induction m with
    | zero =>
      intro c s h0 h1 hm hs
      have hsb := hsum c.toNat (fun i i0 i1 => hmul i i0 (by omega))
      rw [← hs] at hsb
      refine wp_iload_n (t := 4) rfl rfl ?_
      refine wp_aload_n (t := 5) rfl rfl ?_
      refine wp_getR (t := 6) (ji := 0) rfl fX0_15 rfl rfl (by omega) (by first | rfl | assumption) (by first | exact hW _ _ _ (by omega) rfl | assumption) ?_
      refine wp_getI (t := 7) (ji := 2) rfl fX0_19 rfl rfl (by omega) (by first | rfl | assumption) ?_
      refine wp_icmp_ge (t := 8) (tgt := 39) rfl (by decide) (by first | assumption | exact hI0 _ _ | exact zin_and _ _ | (unfold zin; omega) | (unfold zin at *; omega)) (by first | assumption | exact hI0 _ _ | exact zin_and _ _ | (unfold zin; omega) | (unfold zin at *; omega)) (fun h12 => ?_) (fun h12 => ?_)
      · refine wp_iload_n (t := 23) rfl rfl ?_
        refine wp_aload_n (t := 24) rfl rfl ?_
        refine wp_getR (t := 25) (ji := 0) rfl fX0_15 rfl rfl (by omega) (by first | rfl | assumption) (by first | exact hW _ _ _ (by omega) rfl | assumption) ?_
        refine wp_getI (t := 26) (ji := 1) rfl fX0_56 rfl rfl (by omega) (by first | rfl | assumption) ?_
        refine wp_si (c_X0_upward (d := d + 3) (by omega) (by omega)) (t := 27) rfl kX0_40 rfl rfl (Nat.le_of_ble_eq_true rfl) ⟨Nat.le_refl _, Nat.le_refl _⟩ (fun r47 I47 R47 c47 => ?_)
        refine wp_canon (fun hI1 => ?_)
        obtain ⟨rfl, rfl, rfl⟩ := c47
        refine wp_ireturn (t := 28) rfl rfl ?_
        exact ⟨_, rfl, by rw [hs, show c = I47 34 2 by omega]; rfl, rfl, rfl⟩
      · exact absurd h12 (by omega)
    | succ m ih =>
      intro c s h0 h1 hm hs
      refine wp_iload_n (t := 4) rfl rfl ?_
      refine wp_aload_n (t := 5) rfl rfl ?_
      refine wp_getR (t := 6) (ji := 0) rfl fX0_15 rfl rfl (by omega) (by first | rfl | assumption) (by first | exact hW _ _ _ (by omega) rfl | assumption) ?_
      refine wp_getI (t := 7) (ji := 2) rfl fX0_19 rfl rfl (by omega) (by first | rfl | assumption) ?_
      refine wp_icmp_ge (t := 8) (tgt := 39) rfl (by decide) (by first | assumption | exact hI0 _ _ | exact zin_and _ _ | (unfold zin; omega) | (unfold zin at *; omega)) (by first | assumption | exact hI0 _ _ | exact zin_and _ _ | (unfold zin; omega) | (unfold zin at *; omega)) (fun h12 => ?_) (fun h12 => ?_)
      · exact absurd h12 (by omega)
      · refine wp_iload_n (t := 9) rfl rfl ?_
        refine wp_aload_n (t := 10) rfl rfl ?_
        refine wp_iload_n (t := 11) rfl rfl ?_
        refine wp_vi (ci := 3) (c_X3_leastTaken (d := d) hp hW hn hch hpl ⟨h0, by omega⟩) (t := 12) rfl kX0_49 rfl rfl (by omega) (by first | rfl | assumption) ⟨_, _, rfl⟩ (Nat.le_of_ble_eq_true rfl) ⟨Nat.le_refl _, Nat.le_refl _⟩ (fun r18 I18 R18 c18 => ?_)
        refine wp_canon (fun hI1 => ?_)
        obtain ⟨rfl, rfl, rfl⟩ := c18
        refine wp_aload_n (t := 13) rfl rfl ?_
        refine wp_getR (t := 14) (ji := 0) rfl fX0_15 rfl rfl (by omega) (by first | rfl | assumption) (by first | exact hW _ _ _ (by omega) rfl | assumption) ?_
        refine wp_getR (t := 15) (ji := 6) rfl fX0_53 rfl rfl (by omega) (by first | rfl | assumption) (by first | exact hW _ _ _ (by omega) rfl | assumption) ?_
        refine wp_iload_n (t := 16) rfl rfl ?_
        refine wp_iaload (t := 17) rfl (by omega) (by first | rfl | assumption) (by omega) (by omega) (by omega) ?_
        refine wp_imul (t := 18) rfl ?_
        refine wp_iadd (t := 19) rfl ?_
        refine wp_istore_n (t := 20) rfl (by decide) rfl ?_
        refine wp_iinc (t := 21) rfl rfl (by decide) rfl ?_
        refine wp_goto (t := 22) (tgt := 4) rfl (by decide) ?_
        refine ih (c + 1) _ (by omega) (by omega) (by omega) ?_
        rw [zsum_succ _ h0, ← hs]; rfl
  refine wp_ls (ls' := [some (zR o), some (zR p), none, none]) rfl ?_
  refine wp_iconst (t := 0) rfl ?_
  refine wp_istore_n (t := 1) rfl (by decide) rfl ?_
  refine wp_iconst (t := 2) rfl ?_
  refine wp_istore_n (t := 3) rfl (by decide) rfl ?_
  exact key _ 0 0 (by omega) (by omega) rfl rfl
theorem cS_ext {I J : zMem} {p : Nat} (h34 : J 34 = I 34) (h36 : J 36 = I 36) (h37 : J 37 = I 37) (h49 : ∀ b : Nat, 49 ≤ b → b ≤ 54 → J b = I b) (h1 : J (p + 1) = I (p + 1)) (h2 : J (p + 2) = I (p + 2)) (h3 : J (p + 3) = I (p + 3)) (h4 : J (p + 4) = I (p + 4)) (h5 : J (p + 5) = I (p + 5)) : cS J p = cS I p := by
  have eT : (fun (c w : Int) => if 0 ≤ c ∧ c < 6 then tkOf (J (p + 1) c) (J 36 c) (J (49 + c.toNat) w) else 0) = (fun (c w : Int) => if 0 ≤ c ∧ c < 6 then tkOf (I (p + 1) c) (I 36 c) (I (49 + c.toNat) w) else 0) := by
    funext c w
    by_cases g : 0 ≤ c ∧ c < 6
    · rw [if_pos g, if_pos g, h1, h36, h49 _ (by omega) (by omega)]
    · rw [if_neg g, if_neg g]
  show ((J 34 2, J 34 0, J 34 1), J 37, _, (fun a c => zbt (J (p + 5) c) a), J (p + 2), J (p + 3), J (p + 4)) = _
  rw [eT, h34, h37, h2, h3, h4, h5]
  rfl
theorem zCh_ext {I J : zMem} (h : ∀ b : Nat, 34 ≤ b → b ≤ 54 → J b = I b) (hc : zCh I) : zCh J := by
  unfold zCh at hc ⊢
  rw [h 34 (by omega) (by omega), h 36 (by omega) (by omega), h 37 (by omega) (by omega), h 38 (by omega) (by omega), h 46 (by omega) (by omega), h 47 (by omega) (by omega)]
  refine ⟨hc.1, hc.2.1, hc.2.2.1, hc.2.2.2.1, fun c c0 c1 => ?_, hc.2.2.2.2.2⟩
  have g := hc.2.2.2.2.1 c c0 c1
  have g6 := hc.1
  rw [h (40 + c.toNat) (by omega) (by omega), h (49 + c.toNat) (by omega) (by omega)]
  exact g
theorem zPl_ext {I J : zMem} {p : Nat} (h34 : J 34 = I 34) (h1 : J (p + 1) = I (p + 1)) (h2 : J (p + 2) = I (p + 2)) (h3 : J (p + 3) = I (p + 3)) (h4 : J (p + 4) = I (p + 4)) (h5 : J (p + 5) = I (p + 5)) (hp : zPl I p) : zPl J p := by
  unfold zPl at hp ⊢
  rw [h34, h1, h2, h3, h4, h5]
  exact hp
set_option maxHeartbeats 4000000 in
set_option maxRecDepth 100000 in
theorem c_X0_path {G : zG} {d n o : Nat} {I : zMem} {R : zRef} {p : Nat} (ho : o = 70 ∨ o = 92) (hp : p = 64 ∨ p = 86) (hW : zWir n R) (hn : 115 ≤ n) (hch : zCh I) (hpl : zPl I p) : MT G mX0_path (d + 4) 0 0 [zR o, zR p] n I R (zP1 (fun r I' R' => r = sPath (cS I p) ∧ (∀ b : Nat, b ≠ o + 1 → I' b = I b) ∧ R' = R)) := by
  refine MT.of (by decide +kernel) tX0_path_ok (Nat.le_of_ble_eq_true rfl) (fun hI0 => ?_)
  obtain ⟨hl0, hl1, hl2, hl3, hl4, hl5, hp1⟩ := zpl hp
  obtain ⟨hr0, hr1, hr2, hr3, hr4, hr5⟩ := zpr hp hW hn
  obtain ⟨hb0, hb1, hb2, hb3⟩ := zbo ho
  obtain ⟨hq0, hq1⟩ := zbr ho hW hn
  obtain ⟨f1, f2, f3, f4, f5, f6⟩ := cS_facts hch hpl
  have hco := hch.1
  have hli := hch.2.1
  have hmin : ∀ c : Int, 0 ≤ c → c < I 34 2 → 0 ≤ sLeast (cS I p) c ∧ sLeast (cS I p) c ≤ 2234 := fun c c0 c1 => by
    have := zminf_b (f := sT (cS I p) c) (A := 0) (B := 2234) (by omega) (by omega) (I 34 0).toNat (fun w w0 w1 => by
      have := f5 c w c0 c1 w0 (by show w ≤ I 34 0; omega)
      omega)
    show 0 ≤ zminf (sT (cS I p) c) (I 34 0).toNat ∧ zminf (sT (cS I p) c) (I 34 0).toNat ≤ 2234
    omega
  have hup : ∀ k : Nat, (k : Int) ≤ I 34 2 → ∀ x : Int, 0 ≤ zup (sA (cS I p)) (sLeast (cS I p)) k x ∧ zup (sA (cS I p)) (sLeast (cS I p)) k x ≤ 13404 := fun k hk x => by
    have := zup_b (ah := sA (cS I p)) (le := sLeast (cS I p)) k (fun c c0 c1 => hmin c c0 (by omega)) x
    omega
  have ne : o + 1 ≠ 34 ∧ o + 1 ≠ 36 ∧ o + 1 ≠ 37 ∧ o + 1 ≠ p + 1 ∧ o + 1 ≠ p + 2 ∧ o + 1 ≠ p + 3 ∧ o + 1 ≠ p + 4 ∧ o + 1 ≠ p + 5 := by omega
  have hsame : ∀ J : zMem, (∀ b : Nat, b ≠ o + 1 → J b = I b) → cS J p = cS I p ∧ zCh J ∧ zPl J p := fun J hf => ⟨cS_ext (hf _ (by omega)) (hf _ (by omega)) (hf _ (by omega)) (fun b _ _ => hf b (by omega)) (hf _ (by omega)) (hf _ (by omega)) (hf _ (by omega)) (hf _ (by omega)) (hf _ (by omega)), zCh_ext (fun b _ _ => hf b (by omega)) hch, zPl_ext (hf _ (by omega)) (hf _ (by omega)) (hf _ (by omega)) (hf _ (by omega)) (hf _ (by omega)) (hf _ (by omega)) hpl⟩
  have key : ∀ (m : Nat) (c s : Int) (J : zMem) (x4 x5 : Option zV), 0 ≤ c → c ≤ I 34 2 → (I 34 2 - c).toNat = m → (∀ b : Nat, b ≠ o + 1 → J b = I b) → (∀ x : Int, 0 ≤ x → x < c → J (o + 1) x = zup (sA (cS I p)) (sLeast (cS I p)) c.toNat x) → s = zmxf (fun _ => true) (zup (sA (cS I p)) (sLeast (cS I p)) c.toNat) c.toNat → WP G mX0_path (d + 4) 0 0 0 0 4 [some (zR o), some (zR p), some (zI s), some (zI c), x4, x5] [] n J R (zP1 (fun r I' R' => r = sPath (cS I p) ∧ (∀ b : Nat, b ≠ o + 1 → I' b = I b) ∧ R' = R)) := by
    intro m
    induction m with
    | zero =>
      intro c s J x4 x5 h0 h1 hm hf hu hs
      have e34 : J 34 = I 34 := hf 34 (by omega)
      refine wp_canon (fun hI0 => ?_)
      refine wp_iload_n (t := 4) rfl rfl ?_
      refine wp_aload_n (t := 5) rfl rfl ?_
      refine wp_getR (t := 6) (ji := 0) rfl fX0_15 rfl rfl (by omega) (by first | rfl | assumption) (by first | exact hW _ _ _ (by omega) rfl | assumption) ?_
      refine wp_getI (t := 7) (ji := 2) rfl fX0_19 rfl rfl (by omega) (by first | rfl | assumption) ?_
      rw [e34]
      refine wp_icmp_ge (t := 8) (tgt := 93) rfl (by decide) (by first | assumption | exact hI0 _ _ | exact zin_and _ _ | (unfold zin; omega) | (unfold zin at *; omega)) (by first | assumption | exact hI0 _ _ | exact zin_and _ _ | (unfold zin; omega) | (unfold zin at *; omega)) (fun h12 => ?_) (fun h12 => ?_)
      · refine wp_iload_n (t := 53) rfl rfl ?_
        refine wp_ireturn (t := 54) rfl rfl ?_
        exact ⟨_, rfl, by rw [hs, show c = I 34 2 by omega]; rfl, hf, rfl⟩
      · exact absurd h12 (by omega)
    | succ m ih =>
      intro c s J x4 x5 h0 h1 hm hf hu hs
      have e34 : J 34 = I 34 := hf 34 (by omega)
      have e5 : J (p + 5) = I (p + 5) := hf _ (by omega)
      refine wp_canon (fun hI0 => ?_)
      have hupc := hup c.toNat (by omega)
      have hus := zup_succ (sA (cS I p)) (sLeast (cS I p)) h0
      obtain ⟨sm1, sm2, sm3⟩ := hsame J hf
      have hsb := zmxf_b (P := fun _ => true) (v := zup (sA (cS I p)) (sLeast (cS I p)) c.toNat) (B := 13404) (n := c.toNat) (by omega) (fun i _ _ => hupc i)
      rw [← hs] at hsb
      have inner : ∀ (k : Nat) (a be : Int), 0 ≤ a → a ≤ c → (c - a).toNat = k → c < I 34 2 → be = zmxf (fun a => sA (cS I p) a c) (zup (sA (cS I p)) (sLeast (cS I p)) c.toNat) a.toNat → WP G mX0_path (d + 4) 0 0 0 0 21 [some (zR o), some (zR p), some (zI s), some (zI c), some (zI be), some (zI a)] [] n J R (zP1 (fun r I' R' => r = sPath (cS I p) ∧ (∀ b : Nat, b ≠ o + 1 → I' b = I b) ∧ R' = R)) := by
        intro k
        induction k with
        | zero =>
          intro a be a0 a1 hk hc9 hbe
          have hbb := zmxf_b (P := fun a => sA (cS I p) a c) (v := zup (sA (cS I p)) (sLeast (cS I p)) c.toNat) (B := 13404) (n := a.toNat) (by omega) (fun i _ _ => hupc i)
          rw [← hbe] at hbb
          have hmc := hmin c h0 hc9
          refine wp_iload (t := 13) rfl rfl ?_
          refine wp_iload_n (t := 14) rfl rfl ?_
          refine wp_icmp_ge (t := 15) (tgt := 62) rfl (by decide) (by first | assumption | exact hI0 _ _ | exact zin_and _ _ | (unfold zin; omega) | (unfold zin at *; omega)) (by first | assumption | exact hI0 _ _ | exact zin_and _ _ | (unfold zin; omega) | (unfold zin at *; omega)) (fun h24 => ?_) (fun h24 => ?_)
          · refine wp_aload_n (t := 35) rfl rfl ?_
            refine wp_getR (t := 36) (ji := 1) rfl fX0_9 rfl rfl (by omega) (by first | rfl | assumption) (by first | exact hW _ _ _ (by omega) rfl | assumption) ?_
            refine wp_iload_n (t := 37) rfl rfl ?_
            refine wp_iload (t := 38) rfl rfl ?_
            refine wp_aload_n (t := 39) rfl rfl ?_
            refine wp_iload_n (t := 40) rfl rfl ?_
            refine wp_vi (ci := 3) (c_X3_leastTaken (d := d) hp hW hn sm2 sm3 ⟨h0, by rw [e34]; omega⟩) (t := 41) rfl kX0_49 rfl rfl (by omega) (by first | rfl | assumption) ⟨_, _, rfl⟩ (Nat.le_of_ble_eq_true rfl) ⟨Nat.le_refl _, Nat.le_refl _⟩ (fun r71 I71 R71 c71 => ?_)
            refine wp_canon (fun hI1 => ?_)
            obtain ⟨e71, rfl, rfl⟩ := c71
            have e71 : r71 = sLeast (cS I p) c := by rw [e71, sm1, e34]; rfl
            subst e71
            refine wp_iadd (t := 42) rfl ?_
            refine wp_iastore (t := 43) rfl (by omega) (by first | rfl | assumption) (by omega) (by omega) (by omega) (by first | assumption | exact hI1 _ _ | exact hI0 _ _ | exact zin_and _ _ | (unfold zin; omega) | (unfold zin at *; omega)) ?_
            refine wp_canon (fun hI2 => ?_)
            refine wp_iload_n (t := 44) rfl rfl ?_
            refine wp_aload_n (t := 45) rfl rfl ?_
            refine wp_getR (t := 46) (ji := 1) rfl fX0_9 rfl rfl (by omega) (by first | rfl | assumption) (by first | exact hW _ _ _ (by omega) rfl | assumption) ?_
            refine wp_iload_n (t := 47) rfl rfl ?_
            refine wp_iaload (t := 48) rfl (by omega) (by first | rfl | assumption) (by omega) (by omega) (by omega) ?_
            rw [zu_eq]
            refine wp_max (t := 49) rfl (wsL_law_r34_l (List.mem_of_getElem? (i := 4) rfl)) (by first | assumption | exact hI2 _ _ | exact hI1 _ _ | exact hI0 _ _ | exact zin_and _ _ | (unfold zin; omega) | (unfold zin at *; omega)) (by first | assumption | exact hI2 _ _ | exact hI1 _ _ | exact hI0 _ _ | exact zin_and _ _ | (unfold zin; omega) | (unfold zin at *; omega)) (Nat.le_of_ble_eq_true rfl) ⟨Nat.le_refl _, Nat.le_refl _⟩ ?_
            refine wp_istore_n (t := 50) rfl (by decide) rfl ?_
            refine wp_iinc (t := 51) rfl rfl (by decide) rfl ?_
            refine wp_goto (t := 52) (tgt := 4) rfl (by decide) ?_
            have eac : a.toNat = c.toNat := by omega
            refine ih (c + 1) _ _ _ _ (by omega) (by omega) (by omega) (fun b hb => by rw [zu_ne hb]; exact hf b hb) (fun x x0 x1 => ?_) ?_
            · rw [hus x]
              by_cases e : x = c
              · rw [if_pos e, e, zu_eq, hbe, eac]
              · rw [if_neg e, zu_ni e]
                exact hu x x0 (by omega)
            · rw [zmxf_succ _ _ h0, if_pos rfl, hus c, if_pos rfl, hs, hbe, eac]
              congr 1
              exact zmxf_congr (fun i i0 i1 => ⟨rfl, by rw [hus i, if_neg (by omega)]⟩)
          · exact absurd h24 (by omega)
        | succ k ihk =>
          intro a be a0 a1 hk hc9 hbe
          have hbb := zmxf_b (P := fun a => sA (cS I p) a c) (v := zup (sA (cS I p)) (sLeast (cS I p)) c.toNat) (B := 13404) (n := a.toNat) (by omega) (fun i _ _ => hupc i)
          rw [← hbe] at hbb
          have hua := hu a a0 (by omega)
          have hub := hupc a
          have hms := zmxf_succ (fun a => sA (cS I p) a c) (zup (sA (cS I p)) (sLeast (cS I p)) c.toNat) a0
          rw [← hbe] at hms
          refine wp_iload (t := 13) rfl rfl ?_
          refine wp_iload_n (t := 14) rfl rfl ?_
          refine wp_icmp_ge (t := 15) (tgt := 62) rfl (by decide) (by first | assumption | exact hI0 _ _ | exact zin_and _ _ | (unfold zin; omega) | (unfold zin at *; omega)) (by first | assumption | exact hI0 _ _ | exact zin_and _ _ | (unfold zin; omega) | (unfold zin at *; omega)) (fun h24 => ?_) (fun h24 => ?_)
          · exact absurd h24 (by omega)
          · refine wp_aload_n (t := 16) rfl rfl ?_
            refine wp_getR (t := 17) (ji := 5) rfl fX0_43 rfl rfl (by omega) (by first | rfl | assumption) (by first | exact hW _ _ _ (by omega) rfl | assumption) ?_
            refine wp_iload_n (t := 18) rfl rfl ?_
            refine wp_iaload (t := 19) rfl (by omega) (by first | rfl | assumption) (by omega) (by omega) (by omega) ?_
            rw [e5]
            refine wp_iload (t := 20) rfl rfl ?_
            refine wp_ishr (t := 21) rfl ?_
            refine wp_iconst (t := 22) rfl ?_
            refine wp_iand (t := 23) rfl ?_
            refine wp_iconst (t := 24) rfl ?_
            refine wp_icmp_ne (t := 25) (tgt := 56) rfl (by decide) (by first | assumption | exact hI0 _ _ | exact zin_and _ _ | (unfold zin; omega) | (unfold zin at *; omega)) (by first | assumption | exact hI0 _ _ | exact zin_and _ _ | (unfold zin; omega) | (unfold zin at *; omega)) (fun h39 => ?_) (fun h39 => ?_)
            · refine wp_iinc (t := 33) rfl rfl (by decide) rfl ?_
              refine wp_goto (t := 34) (tgt := 21) rfl (by decide) ?_
              refine ihk (a + 1) _ (by omega) (by omega) (by omega) hc9 ?_
              rw [hms, if_neg (show ¬ sA (cS I p) a c = true from fun q => h39 (of_decide_eq_true q))]
            · refine wp_iload (t := 26) rfl rfl ?_
              refine wp_aload_n (t := 27) rfl rfl ?_
              refine wp_getR (t := 28) (ji := 1) rfl fX0_9 rfl rfl (by omega) (by first | rfl | assumption) (by first | exact hW _ _ _ (by omega) rfl | assumption) ?_
              refine wp_iload (t := 29) rfl rfl ?_
              refine wp_iaload (t := 30) rfl (by omega) (by first | rfl | assumption) (by omega) (by omega) (by omega) ?_
              rw [hua]
              refine wp_max (t := 31) rfl (wsL_law_r34_l (List.mem_of_getElem? (i := 4) rfl)) (by first | assumption | exact hI0 _ _ | exact zin_and _ _ | (unfold zin; omega) | (unfold zin at *; omega)) (by first | assumption | exact hI0 _ _ | exact zin_and _ _ | (unfold zin; omega) | (unfold zin at *; omega)) (Nat.le_of_ble_eq_true rfl) ⟨Nat.le_refl _, Nat.le_refl _⟩ ?_
              refine wp_istore (t := 32) rfl (by decide) rfl ?_
              refine wp_iinc (t := 33) rfl rfl (by decide) rfl ?_
              refine wp_goto (t := 34) (tgt := 21) rfl (by decide) ?_
              refine ihk (a + 1) _ (by omega) (by omega) (by omega) hc9 ?_
              rw [hms, if_pos (show sA (cS I p) a c = true from decide_eq_true (by omega))]
      refine wp_iload_n (t := 4) rfl rfl ?_
      refine wp_aload_n (t := 5) rfl rfl ?_
      refine wp_getR (t := 6) (ji := 0) rfl fX0_15 rfl rfl (by omega) (by first | rfl | assumption) (by first | exact hW _ _ _ (by omega) rfl | assumption) ?_
      refine wp_getI (t := 7) (ji := 2) rfl fX0_19 rfl rfl (by omega) (by first | rfl | assumption) ?_
      rw [e34]
      refine wp_icmp_ge (t := 8) (tgt := 93) rfl (by decide) (by first | assumption | exact hI0 _ _ | exact zin_and _ _ | (unfold zin; omega) | (unfold zin at *; omega)) (by first | assumption | exact hI0 _ _ | exact zin_and _ _ | (unfold zin; omega) | (unfold zin at *; omega)) (fun h12 => ?_) (fun h12 => ?_)
      · exact absurd h12 (by omega)
      · refine wp_iconst (t := 9) rfl ?_
        refine wp_istore (t := 10) rfl (by decide) rfl ?_
        refine wp_iconst (t := 11) rfl ?_
        refine wp_istore (t := 12) rfl (by decide) rfl ?_
        exact inner _ 0 0 (by omega) (by omega) rfl (by omega) rfl
  refine wp_ls (ls' := [some (zR o), some (zR p), none, none, none, none]) rfl ?_
  refine wp_iconst (t := 0) rfl ?_
  refine wp_istore_n (t := 1) rfl (by decide) rfl ?_
  refine wp_iconst (t := 2) rfl ?_
  refine wp_istore_n (t := 3) rfl (by decide) rfl ?_
  exact key _ 0 0 I _ _ (by omega) (by omega) rfl (fun _ _ => rfl) (fun x x0 x1 => absurd x1 (by omega)) rfl
theorem sBounds_in {I : zMem} {p : Nat} (hch : zCh I) (hpl : zPl I p) : (0 ≤ sArea (cS I p) ∧ sArea (cS I p) ≤ 1000000) ∧ (0 ≤ sPath (cS I p) ∧ sPath (cS I p) ≤ 1000000) ∧ (0 ≤ sDrawn (cS I p) ∧ sDrawn (cS I p) ≤ 1000000) := by
  obtain ⟨f1, f2, f3, f4, f5, f6⟩ := cS_facts hch hpl
  have hco := hch.1
  have hli := hch.2.1
  have hpo := hch.2.2.1
  have hmin : ∀ c : Int, 0 ≤ c → c < I 34 2 → 0 ≤ sLeast (cS I p) c ∧ sLeast (cS I p) c ≤ 2234 := fun c c0 c1 => by
    have := zminf_b (f := sT (cS I p) c) (A := 0) (B := 2234) (by omega) (by omega) (I 34 0).toNat (fun w w0 w1 => by
      have := f5 c w c0 c1 w0 (by show w ≤ I 34 0; omega)
      omega)
    show 0 ≤ zminf (sT (cS I p) c) (I 34 0).toNat ∧ zminf (sT (cS I p) c) (I 34 0).toNat ≤ 2234
    omega
  refine ⟨?_, ?_, ?_⟩
  · have hsum := zsum_bounds (a := 0) (b := 17872) (n := (I 34 2).toNat) (f := fun c => zminf (fun w => w * sT (cS I p) c w) (I 34 0).toNat) (fun c c0 c1 => by
      have := zminf_b (f := fun w => w * sT (cS I p) c w) (A := 0) (B := 17872) (by omega) (by omega) (I 34 0).toNat (fun w w0 w1 => by
        have hT := f5 c w c0 (by show c < I 34 2; omega) w0 (by show w ≤ I 34 0; omega)
        exact zmulb (A := 8) (B := 2234) (by omega) (by omega) (by omega) hT.2)
      show 0 ≤ zminf (fun w => w * sT (cS I p) c w) (I 34 0).toNat ∧ zminf (fun w => w * sT (cS I p) c w) (I 34 0).toNat ≤ 17872
      omega)
    show 0 ≤ (zsum (fun c => zminf (fun w => w * sT (cS I p) c w) (I 34 0).toNat) (I 34 2).toNat + I 34 0 - 1) / I 34 0 ∧ (zsum (fun c => zminf (fun w => w * sT (cS I p) c w) (I 34 0).toNat) (I 34 2).toNat + I 34 0 - 1) / I 34 0 ≤ 1000000
    generalize zsum (fun c => zminf (fun w => w * sT (cS I p) c w) (I 34 0).toNat) (I 34 2).toNat = s at *
    refine ⟨Int.ediv_nonneg (by omega) (by omega), Int.ediv_le_of_le_mul (by omega) ?_⟩
    have : 1000000 * 1 ≤ 1000000 * I 34 0 := Int.mul_le_mul (Int.le_refl _) (by omega) (by omega) (by omega)
    omega
  · have hup := fun x => zup_b (ah := sA (cS I p)) (le := sLeast (cS I p)) (I 34 2).toNat (fun c c0 c1 => hmin c c0 (by omega)) x
    have := zmxf_b (P := fun _ => true) (v := zup (sA (cS I p)) (sLeast (cS I p)) (I 34 2).toNat) (B := 13404) (n := (I 34 2).toNat) (by omega) (fun i _ _ => by have := hup i; omega)
    show 0 ≤ zmxf (fun _ => true) (zup (sA (cS I p)) (sLeast (cS I p)) (I 34 2).toNat) (I 34 2).toNat ∧ zmxf (fun _ => true) (zup (sA (cS I p)) (sLeast (cS I p)) (I 34 2).toNat) (I 34 2).toNat ≤ 1000000
    omega
  · have hsum := zsum_bounds (a := 0) (b := 67020) (n := (I 34 2).toNat) (f := fun c => sLeast (cS I p) c * I 37 c) (fun c c0 c1 => by
      have g := hmin c c0 (by omega)
      have g2 := (hch.2.2.2.2.1 c c0 (by omega)).2.1
      exact zmulb (A := 2234) (B := 30) g.1 g.2 (by omega) g2.2)
    show 0 ≤ (zsum (fun c => sLeast (cS I p) c * I 37 c) (I 34 2).toNat + I 34 1 - 1) / I 34 1 ∧ (zsum (fun c => sLeast (cS I p) c * I 37 c) (I 34 2).toNat + I 34 1 - 1) / I 34 1 ≤ 1000000
    generalize zsum (fun c => sLeast (cS I p) c * I 37 c) (I 34 2).toNat = s at *
    refine ⟨Int.ediv_nonneg (by omega) (by omega), Int.ediv_le_of_le_mul (by omega) ?_⟩
    have : 1000000 * 1 ≤ 1000000 * I 34 1 := Int.mul_le_mul (Int.le_refl _) (by omega) (by omega) (by omega)
    omega
