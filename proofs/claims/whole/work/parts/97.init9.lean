/-! a constructor that only its nest may call -/
def zLiN (x : Nat) (m2 : zM) (na : Nat) : Prop := (x, m2.1) ∈ zNest ∧ Cond.instanceMethod m2.1 ∈ wsL_law ∧ Cond.initialized m2.1.cls ∈ wsL_law ∧ Cond.code m2.1 m2.2.1 m2.2.2.1 none ∈ wsL_law ∧ m2.2.2.2.1 = none ∧ m2.1.name = "<init>" ∧ m2.1.cls ≠ "java/lang/invoke/MethodHandle" ∧ m2.1.cls ≠ "java/lang/invoke/VarHandle" ∧ (parseMethodDescriptor m2.1.desc).map (fun d => d.parameters.length) = some na ∧ m2.2.2.1 ≤ 41
theorem wp_initN {G : zG} {mi : zM} {d mc ms k q pc t : Nat} {ls : List (Option zV)} {st : List zV} {n : Nat} {I : zMem} {R : zRef} {Q : zPo} {x o na mc2 ms2 : Nat} {m2 : zM} {As rest : List zV} {P : zMem → zRef → Prop} (hM : MT G m2 d mc2 ms2 (zR o :: As) n I R (zP0 P)) (hd : mi.2.2.2.2[t]? = some (pc, .invokespecial x, 3)) (hcl : mi.1.cls = RX9) (hl : zLiN x m2 na) (hn : As.length = na) (hst : st = As.reverse ++ zR o :: rest) (hr : rest.length ≤ 4) (hcs : k + mc2 ≤ mc ∧ q + ms2 ≤ ms)
    (kk : ∀ I' R', P I' R' → WP G mi (d + 1) mc ms (k + mc2) (q + ms2) (pc + 3) ls rest (n + mc2) I' R' Q) : WP G mi (d + 1) mc ms k q pc ls st n I R Q := by
  intro p e s m args below meth c H locs lsA F hZ hS hV hL
  obtain ⟨hx, hb, hml, hown, hts, hr2, hlk, hnm, hK, hok⟩ := id F
  obtain ⟨l1, l2, l3, l4, l5, l6, l7, l8, l9, l10⟩ := hl
  have hnest : va_Nw (.methodLinkNest mi.1.cls x m2.1 RX9) s := by
    rw [hcl]
    exact hK.2.2.1 (x, m2.1) l1
  refine W_sized (fun hsz => ?_)
  have hsz := zsize hZ hS hV hsz
  have hws : zws m2 = Cond.code m2.1 m2.2.1 m2.2.2.1 none :: wsL_law := by unfold zws; rw [l5]
  have hG : GoodIn wsL_law (zws m2) := by
    intro w hw
    rw [hws] at hw
    rcases List.mem_cons.mp hw with rfl | hw
    · exact zgood l4
    · exact zgood hw
  refine zback (m2 := m2) (x := x) (na := na) (av := []) (g := F0 m pc lsA []) F hZ hV hL hcs.1 (va_runIN (host := RX9) (As := As.map (zc G.2.1)) (b := G.2.1 + o) (n := na) (rm := zrm d mc2 ms2) ⟨hx, hb, hml, hown, hts⟩ hM ⟨va_cnB na hts hG hws rfl rfl hnest (hts _ l3) ⟨l7, l8, l9⟩ ⟨Nat.le_refl _, by show 8 + (m2.2.2.1 + 11) + 60 * d ≤ 60 * (d + 1); omega⟩, l6, hts _ l2⟩ ⟨zpre_blind, fun U hU hW => ⟨rfl, by rw [hU]; exact hsz, by rw [hU]; exact hS, hK.moved hW (by rw [hU]; exact hV.2.1)⟩⟩ rfl (by rw [List.length_map]; exact hn) (hL.1) ?_ (lv_room (Nat.le_trans (zcats rest) (by omega))) (ztok_at hok hd) hcs) (fun r I' R' h => by
    obtain ⟨rfl, h⟩ := h
    exact kk I' R' h)
  show st.map (zc G.2.1) = _
  rw [hst, List.map_append, List.map_reverse]
  rfl
theorem jN_11 : zLiN 11 mX8_init 0 := ⟨by decide +kernel, wsL_law_r3_l (List.mem_of_getElem? (i := 4) rfl), wsL_law_r1_l (List.mem_of_getElem? (i := 14) rfl), wsL_law_r3_l (List.mem_of_getElem? (i := 5) rfl), rfl, rfl, by decide +kernel, by decide +kernel, by decide +kernel, by decide +kernel⟩
theorem jN_27 : zLiN 27 mX2_init 0 := ⟨by decide +kernel, wsL_law_r3_l (List.mem_of_getElem? (i := 15) rfl), wsL_law_r1_l (List.mem_of_getElem? (i := 22) rfl), wsL_law_r3_l (List.mem_of_getElem? (i := 16) rfl), rfl, rfl, by decide +kernel, by decide +kernel, by decide +kernel, by decide +kernel⟩
theorem jN_76 : zLiN 76 mX1_init 0 := ⟨by decide +kernel, wsL_law_r6_l (List.mem_of_getElem? (i := 5) rfl), wsL_law_r2_l (List.mem_of_getElem? (i := 22) rfl), wsL_law_r6_l (List.mem_of_getElem? (i := 6) rfl), rfl, rfl, by decide +kernel, by decide +kernel, by decide +kernel, by decide +kernel⟩
/-! the class's constructor -/
def zI0 : zMem := fun _ _ => 0
def zR0 : zRef := fun _ _ => none
theorem zu_same {I : zMem} {a : Nat} {i v : Int} (h : I a i = v) : zu I a i v = I := by
  funext b j
  unfold zu
  split
  · rename_i q
    obtain ⟨rfl, rfl⟩ := q
    exact h.symm
  · rfl
theorem zapp_fresh {L : List (Nat × Int × Nat)} {m : Nat} (h : L.all (fun x => decide (x.1 < m)) = true) : ∀ b, m ≤ b → ∀ j, zapp zR0 L b j = none := fun b hb j => by
  rw [zapp_out (fun x hx => by have := of_decide_eq_true (List.all_eq_true.mp h x hx); omega)]
  rfl
theorem zWir_0 : zWir 0 zR0 := fun b j r hb _ => absurd hb (by omega)
/-- what the class begins with -/
def cI9 (J : zMem) : Prop := ∃ S : pS, pGood S ∧ pEq S zP0'.2 ∧ 1 ≤ S.1.2.2.1 ∧ cRd J 34 S ∧ zLaid J ∧ (∀ c : Int, 0 ≤ c → c < S.1.2.2.1 → J 65 c = S.2.1 c) ∧
  (∀ c : Int, 0 ≤ c → c < 6 → J 66 c = 0 ∧ J 67 c = 0 ∧ J 68 c = 0 ∧ (0 ≤ J 69 c ∧ J 69 c < 64) ∧ ∀ a : Int, 0 ≤ a → a < 6 → (zbt (J 69 c) a = true ↔ ∃ b : Int, 0 ≤ b ∧ b < J 34 3 ∧ b ≠ -4 ∧ J 46 b = a ∧ J 47 b = c)) ∧
  (∀ l : Int, 0 ≤ l → l < 9 → J 85 l = 0) ∧ J 95 1 = 0 ∧ J 105 1 = 0 ∧ J 109 1 = 0 ∧ J 111 4 = 0 ∧ J 1 1 = 0 ∧ ∀ b : Nat, 115 ≤ b → ∀ j, J b j = 0
def rho10 (k : Int) : Nat := 97 + k.toNat
def rho20 (k : Int) : Nat := 107 + k.toNat
def cR9 (R : zRef) : Prop := zWir 115 R ∧ zShf 95 8 R rho10 ∧ zShf 105 2 R rho20 ∧ ∀ b : Nat, 115 ≤ b → ∀ j, R b j = none
theorem zP0_c : zP0'.2.1.2.2.1 = 5 := by decide +kernel
theorem cI9_of {K J : zMem} {r : Int} (hT : ∀ p : Int, 0 ≤ p → p < 75 → K 2 p = zT0 p) (h1 : K 1 1 = 75) (h0 : ∀ b : Nat, 115 ≤ b → ∀ j, K b j = 0) (h : cLayP K r J) : cI9 (zu J 1 1 0) := by
  have hS : pGood (pParse (K 2) (K 1 1) 200 pS0 0).2 := pParse_good 200 pS0 0 pGood0
  have g := pParse_cg (T := K 2) (T' := zT0) (L := 75) hT 200 pS0 pS0 0 (pEq_refl _)
  have e : pParse zT0 75 200 pS0 0 = zP0' := by unfold zP0'; rfl
  rw [e] at g
  unfold cLayP at h
  rw [h1] at h hS
  generalize pParse (K 2) 75 200 pS0 0 = P at g h hS
  obtain ⟨g1, g2⟩ := g
  have q1 : P.1 = -4 := by rw [g1]; exact zP0_ok.1
  have q2 : 1 ≤ P.2.1.2.2.1 := by rw [g2.1, zP0_c]; decide
  rcases h with ⟨a, -⟩ | ⟨-, -, c1, c2, c3, c4, c5, c6, c7, c8, c9, c10, c11, c12⟩
  · exact absurd ⟨q1, q2⟩ a
  · refine ⟨P.2, hS, g2, q2, cRd_ext (fun b b0 b1 => zu_ne (by omega)) hS c1, kCh_l (fun b b0 b1 => zu_ne (by omega)) (cRd_zCh c1 hS c2 q2) c2, fun c c0 cn => ?_, fun c c0 cn => ?_, fun l l0 l1 => ?_, ?_, ?_, ?_, ?_, zu_eq, fun b hb j => ?_⟩
    · rw [zu_ne (by decide)]; exact c3 c c0 cn
    · rw [zu_ne (by decide), zu_ne (by decide), zu_ne (by decide), zu_ne (by decide), zu_ne (by decide), zu_ne (by decide), zu_ne (by decide)]
      exact c4 c c0 cn
    · rw [zu_ne (by decide)]; exact c5 l l0 l1
    · rw [zu_ne (by decide)]; exact c6
    · rw [zu_ne (by decide)]; exact c7
    · rw [zu_ne (by decide)]; exact c8
    · rw [zu_ne (by decide)]; exact c9
    · rw [zu_ne (by omega), c12 b hb]; exact h0 b hb j
theorem zShf_mk {R : zRef} {o m : Nat} {rho : Int → Nat} (he : ∀ k : Int, rho k = o + 2 + k.toNat) (h : ∀ k : Nat, k < m → R (o + 1) (k : Int) = some (o + 2 + k)) : zShf o m R rho := by
  refine ⟨fun k k0 k1 => ⟨?_, ?_, ?_⟩, fun j k j0 j1 k0 k1 e => ?_⟩
  · have := h k.toNat (by omega)
    rw [show ((k.toNat : Nat) : Int) = k by omega] at this
    rw [this, he]
  · rw [he]; omega
  · rw [he]; omega
  · rw [he, he] at e; omega
theorem zT0_z {i : Int} (h0 : 0 ≤ i) (h1 : i < 75) : zin (zT0 i) := by
  have h : ∀ j : Nat, j < 75 → (0 ≤ zT0 (j : Int) ∧ zT0 (j : Int) < 128) := by decide +kernel
  have g := h i.toNat (by omega)
  rw [show ((i.toNat : Nat) : Int) = i by omega] at g
  exact ⟨by omega, by omega⟩
set_option maxHeartbeats 4000000 in
set_option maxRecDepth 100000 in
theorem zX9_body {G : zG} {d : Nat} {i : Int} {K : zMem} {R9 : zRef} {Q : zPo} (hW : zWir 115 R9) (i0 : 0 ≤ i) (i1 : i < 75) (k1 : K 1 1 = i) (kk : ∀ K1 : zMem, K1 1 1 = i + 1 → (∀ p : Int, 0 ≤ p → p < i + 1 → K1 2 p = if p = i then zT0 i else K 2 p) → (∀ b : Nat, 115 ≤ b → K1 b = K b) → WP G mX9_init (d + 6) 114 1698 114 1698 158 [some (zR 0), some (zI (i + 1))] [] 115 K1 R9 Q) : WP G mX9_init (d + 6) 114 1698 114 1698 158 [some (zR 0), some (zI i)] [] 115 K R9 Q := by
  refine wp_canon (fun hI0 => ?_)
  have zc := zT0_z i0 i1
  refine wp_iload_n (t := 75) rfl rfl ?_
  refine wp_len88 (t := 76) (t2 := 77) rfl rfl rfl (Nat.le_of_ble_eq_true rfl) ⟨Nat.le_refl _, Nat.le_refl _⟩ ?_
  refine wp_icmp_ge (t := 78) (tgt := 186) rfl (by decide) (by first | assumption | exact hI0 _ _ | exact zin_and _ _ | (unfold zin; omega) | (unfold zin at *; omega)) (by first | assumption | exact hI0 _ _ | exact zin_and _ _ | (unfold zin; omega) | (unfold zin at *; omega)) (fun h164 => ?_) (fun h164 => ?_)
  · exact absurd h164 (by omega)
  · refine wp_aload_n (t := 79) rfl rfl ?_
    refine wp_getR (t := 80) (ji := 0) rfl fX9_12 rfl rfl (by omega) (by first | rfl | assumption) (by first | exact hW _ _ _ (by omega) rfl | assumption | exact zapp_get rfl) ?_
    refine wp_char88 (t := 81) (t2 := 82) (t3 := 83) rfl rfl rfl rfl rfl (by omega) (by omega) (Nat.le_of_ble_eq_true rfl) ⟨Nat.le_refl _, Nat.le_refl _⟩ ?_
    refine wp_vv (ci := 8) (c_X8_add (d := d + 5) hW (Nat.le_refl _) zc (by rw [k1]; omega)) (t := 84) rfl kX9_100 rfl rfl (by omega) (by first | rfl | assumption) ⟨_, _, rfl⟩ (Nat.le_of_ble_eq_true rfl) ⟨Nat.le_refl _, Nat.le_refl _⟩ (fun I177 R177 c177 => ?_)
    refine wp_canon (fun hI1 => ?_)
    obtain ⟨zi177, zr177⟩ := c177
    subst zi177
    subst zr177
    refine wp_iinc (t := 85) rfl rfl (by decide) rfl ?_
    refine wp_goto (t := 86) (tgt := 158) rfl (by decide) ?_
    refine kk _ (by rw [zu_eq, k1]) (fun p p0 p1 => ?_) (fun b hb => by rw [zu_ne (by omega), zu_ne (by omega)])
    rw [zu_ne (by decide), k1]
    by_cases q : p = i
    · rw [if_pos q, q, zu_eq]
    · rw [if_neg q, zu_ni q]
set_option maxHeartbeats 4000000 in
set_option maxRecDepth 100000 in
theorem zX9_tail {G : zG} {d : Nat} {K : zMem} {R9 : zRef} (hW : zWir 115 R9) (hs1 : zShf 95 8 R9 rho10) (hs2 : zShf 105 2 R9 rho20) (hn0 : ∀ b : Nat, 115 ≤ b → ∀ j, R9 b j = none) (k1 : K 1 1 = 75) (k2 : ∀ p : Int, 0 ≤ p → p < 75 → K 2 p = zT0 p) (k3 : ∀ b : Nat, 115 ≤ b → ∀ j, K b j = 0) : WP G mX9_init (d + 6) 114 1698 114 1698 158 [some (zR 0), some (zI 75)] [] 115 K R9 (zP0 (fun I' R' => cI9 I' ∧ cR9 R')) := by
  refine wp_canon (fun hI0 => ?_)
  refine wp_iload_n (t := 75) rfl rfl ?_
  refine wp_len88 (t := 76) (t2 := 77) rfl rfl rfl (Nat.le_of_ble_eq_true rfl) ⟨Nat.le_refl _, Nat.le_refl _⟩ ?_
  refine wp_icmp_ge (t := 78) (tgt := 186) rfl (by decide) (by first | assumption | exact hI0 _ _ | exact zin_and _ _ | (unfold zin; omega) | (unfold zin at *; omega)) (by first | assumption | exact hI0 _ _ | exact zin_and _ _ | (unfold zin; omega) | (unfold zin at *; omega)) (fun h164 => ?_) (fun h164 => ?_)
  · refine wp_aload_n (t := 87) rfl rfl ?_
    refine wp_vi (ci := 9) (c_X9_layText (d := d) hW (Nat.le_refl _) (by rw [k1]; omega)) (t := 88) rfl kX9_103 rfl rfl (by omega) (by first | rfl | assumption) ⟨_, _, rfl⟩ (Nat.le_of_ble_eq_true rfl) ⟨Nat.le_refl _, Nat.le_refl _⟩ (fun r187 I187 R187 c187 => ?_)
    refine wp_canon (fun hI1 => ?_)
    obtain ⟨c187, zr187⟩ := c187
    subst zr187
    refine wp_pop (t := 89) rfl rfl ?_
    refine wp_aload_n (t := 90) rfl rfl ?_
    refine wp_getR (t := 91) (ji := 0) rfl fX9_12 rfl rfl (by omega) (by first | rfl | assumption) (by first | exact hW _ _ _ (by omega) rfl | assumption | exact zapp_get rfl) ?_
    refine wp_vv (ci := 8) (c_X8_clear (d := d + 5) (Nat.le_refl _)) (t := 92) rfl kX9_106 rfl rfl (by omega) (by first | rfl | assumption) ⟨_, _, rfl⟩ (Nat.le_of_ble_eq_true rfl) ⟨Nat.le_refl _, Nat.le_refl _⟩ (fun I195 R195 c195 => ?_)
    refine wp_canon (fun hI2 => ?_)
    obtain ⟨zi195, zr195⟩ := c195
    subst zi195
    subst zr195
    refine wp_return (t := 93) rfl rfl ?_
    exact ⟨rfl, cI9_of k2 k1 k3 c187, hW, hs1, hs2, hn0⟩
  · exact absurd (Int.le_refl 75) h164
set_option maxHeartbeats 4000000 in
set_option maxRecDepth 100000 in
theorem c_X9_init {G : zG} {d : Nat} : MT G mX9_init (d + 6) 114 1698 [zR 0] 1 zI0 zR0 (zP0 (fun I' R' => cI9 I' ∧ cR9 R')) := by
  refine MT.of (by decide +kernel) tX9_init_ok (Nat.le_of_ble_eq_true rfl) (fun hI0 => ?_)
  have hI : ∀ b, 1 ≤ b → ∀ j, zI0 b j = 0 := fun _ _ _ => rfl
  refine wp_ls (ls' := [some (zR 0), none]) rfl (wp_R0 ?_)
  refine wp_aload_n (t := 0) rfl rfl ?_
  refine wp_objI (t := 1) rfl oX9_3 (Nat.le_of_ble_eq_true rfl) ?_
  refine wp_aload_n (t := 2) rfl rfl ?_
  refine wp_new (t := 3) rfl nX9_9 rfl (fun j => by first | exact hI _ (by omega) j | (rw [zu_ne (by omega)]; exact hI _ (by omega) j) | (rw [zu_ne (by omega), zu_ne (by omega)]; exact hI _ (by omega) j) | (rw [zu_ne (by omega), zu_ne (by omega), zu_ne (by omega)]; exact hI _ (by omega) j)) (fun _ => rfl) d8 ⟨Nat.le_of_ble_eq_true rfl, Nat.le_of_ble_eq_true rfl⟩ ?_
  refine wp_dup (t := 4) rfl rfl ?_
  refine wp_initN (c_X8_init (d := d + 4) (fun _ _ _ => rfl) (zapp_fresh (by decide +kernel))) (t := 5) rfl rfl jN_11 rfl rfl (Nat.le_of_ble_eq_true rfl) ⟨Nat.le_of_ble_eq_true rfl, Nat.le_of_ble_eq_true rfl⟩ (fun I9 R9 c9 => ?_)
  refine wp_canon (fun hI1 => ?_)
  obtain ⟨rfl, rfl⟩ := c9
  rw [zu_same (show zI0 1 1 = 0 from rfl), zapp_app]
  refine wp_putL (t := 6) (ji := 0) rfl fX9_12 q9_0 (fun _ => ⟨rfl, rfl⟩) rfl rfl (by omega) (by first | rfl | assumption) rfl ⟨_, _, rfl⟩ ?_
  refine wp_aload_n (t := 7) rfl rfl ?_
  refine wp_new (t := 8) rfl nX9_16 rfl (fun j => by first | exact hI _ (by omega) j | (rw [zu_ne (by omega)]; exact hI _ (by omega) j) | (rw [zu_ne (by omega), zu_ne (by omega)]; exact hI _ (by omega) j) | (rw [zu_ne (by omega), zu_ne (by omega), zu_ne (by omega)]; exact hI _ (by omega) j)) (zapp_none (by decide +kernel) (fun _ => rfl)) d4 ⟨Nat.le_of_ble_eq_true rfl, Nat.le_of_ble_eq_true rfl⟩ ?_
  refine wp_dup (t := 9) rfl rfl ?_
  refine wp_aload_n (t := 10) rfl rfl ?_
  refine wp_getR (t := 11) (ji := 0) rfl fX9_12 rfl rfl (by omega) (by first | rfl | assumption) (zapp_get (v := 1) (by decide +kernel)) ?_
  refine wp_init (c_X4_init (d := d + 4) (n := 4) (Nat.le_refl _)) (t := 12) rfl iX9_18 rfl rfl (Nat.le_of_ble_eq_true rfl) ⟨Nat.le_of_ble_eq_true rfl, Nat.le_of_ble_eq_true rfl⟩ (fun I24 R24 c24 => ?_)
  refine wp_canon (fun hI2 => ?_)
  obtain ⟨rfl, rfl⟩ := c24
  rw [zu_same (show zI0 3 1 = 0 from rfl), zapp_app]
  refine wp_putL (t := 13) (ji := 1) rfl fX9_21 q9_1 (fun _ => ⟨rfl, rfl⟩) rfl rfl (by omega) (by first | rfl | assumption) rfl ⟨_, _, rfl⟩ ?_
  refine wp_aload_n (t := 14) rfl rfl ?_
  refine wp_new (t := 15) rfl nX9_25 rfl (fun j => by first | exact hI _ (by omega) j | (rw [zu_ne (by omega)]; exact hI _ (by omega) j) | (rw [zu_ne (by omega), zu_ne (by omega)]; exact hI _ (by omega) j) | (rw [zu_ne (by omega), zu_ne (by omega), zu_ne (by omega)]; exact hI _ (by omega) j)) (zapp_none (by decide +kernel) (fun _ => rfl)) d2 ⟨Nat.le_of_ble_eq_true rfl, Nat.le_of_ble_eq_true rfl⟩ ?_
  refine wp_dup (t := 16) rfl rfl ?_
  refine wp_initN (c_X2_init (d := d + 4) (o := 4) (Or.inl rfl) (fun _ _ _ => rfl) (zapp_fresh (by decide +kernel))) (t := 17) rfl rfl jN_27 rfl rfl (Nat.le_of_ble_eq_true rfl) ⟨Nat.le_of_ble_eq_true rfl, Nat.le_of_ble_eq_true rfl⟩ (fun I35 R35 c35 => ?_)
  refine wp_canon (fun hI3 => ?_)
  obtain ⟨rfl, rfl⟩ := c35
  rw [zapp_app]
  refine wp_putL (t := 18) (ji := 2) rfl fX9_28 q9_2 (fun _ => ⟨rfl, rfl⟩) rfl rfl (by omega) (by first | rfl | assumption) rfl ⟨_, _, rfl⟩ ?_
  refine wp_aload_n (t := 19) rfl rfl ?_
  refine wp_new (t := 20) rfl nX9_25 rfl (fun j => by first | exact hI _ (by omega) j | (rw [zu_ne (by omega)]; exact hI _ (by omega) j) | (rw [zu_ne (by omega), zu_ne (by omega)]; exact hI _ (by omega) j) | (rw [zu_ne (by omega), zu_ne (by omega), zu_ne (by omega)]; exact hI _ (by omega) j)) (zapp_none (by decide +kernel) (fun _ => rfl)) d2 ⟨Nat.le_of_ble_eq_true rfl, Nat.le_of_ble_eq_true rfl⟩ ?_
  refine wp_dup (t := 21) rfl rfl ?_
  refine wp_initN (c_X2_init (d := d + 4) (o := 34) (Or.inr rfl) (fun _ _ _ => rfl) (zapp_fresh (by decide +kernel))) (t := 22) rfl rfl jN_27 rfl rfl (Nat.le_of_ble_eq_true rfl) ⟨Nat.le_of_ble_eq_true rfl, Nat.le_of_ble_eq_true rfl⟩ (fun I46 R46 c46 => ?_)
  refine wp_canon (fun hI4 => ?_)
  obtain ⟨rfl, rfl⟩ := c46
  rw [zapp_app]
  refine wp_putL (t := 23) (ji := 3) rfl fX9_32 q9_3 (fun _ => ⟨rfl, rfl⟩) rfl rfl (by omega) (by first | rfl | assumption) rfl ⟨_, _, rfl⟩ ?_
  refine wp_aload_n (t := 24) rfl rfl ?_
  refine wp_new (t := 25) rfl nX9_35 rfl (fun j => by first | exact hI _ (by omega) j | (rw [zu_ne (by omega)]; exact hI _ (by omega) j) | (rw [zu_ne (by omega), zu_ne (by omega)]; exact hI _ (by omega) j) | (rw [zu_ne (by omega), zu_ne (by omega), zu_ne (by omega)]; exact hI _ (by omega) j)) (zapp_none (by decide +kernel) (fun _ => rfl)) d3 ⟨Nat.le_of_ble_eq_true rfl, Nat.le_of_ble_eq_true rfl⟩ ?_
  refine wp_dup (t := 26) rfl rfl ?_
  refine wp_aload_n (t := 27) rfl rfl ?_
  refine wp_getR (t := 28) (ji := 3) rfl fX9_32 rfl rfl (by omega) (by first | rfl | assumption) (zapp_get (v := 34) (by decide +kernel)) ?_
  refine wp_init (c_X3_init (d := d + 4) (o := 64) (Or.inl rfl) (fun _ _ _ => rfl) (zapp_fresh (by decide +kernel))) (t := 29) rfl iX9_37 rfl rfl (Nat.le_of_ble_eq_true rfl) ⟨Nat.le_of_ble_eq_true rfl, Nat.le_of_ble_eq_true rfl⟩ (fun I61 R61 c61 => ?_)
  refine wp_canon (fun hI5 => ?_)
  obtain ⟨rfl, rfl⟩ := c61
  rw [zapp_app]
  refine wp_putL (t := 30) (ji := 4) rfl fX9_40 q9_4 (fun _ => ⟨rfl, rfl⟩) rfl rfl (by omega) (by first | rfl | assumption) rfl ⟨_, _, rfl⟩ ?_
  refine wp_aload_n (t := 31) rfl rfl ?_
  refine wp_new (t := 32) rfl nX9_44 rfl (fun j => by first | exact hI _ (by omega) j | (rw [zu_ne (by omega)]; exact hI _ (by omega) j) | (rw [zu_ne (by omega), zu_ne (by omega)]; exact hI _ (by omega) j) | (rw [zu_ne (by omega), zu_ne (by omega), zu_ne (by omega)]; exact hI _ (by omega) j)) (zapp_none (by decide +kernel) (fun _ => rfl)) d0 ⟨Nat.le_of_ble_eq_true rfl, Nat.le_of_ble_eq_true rfl⟩ ?_
  refine wp_dup (t := 33) rfl rfl ?_
  refine wp_aload_n (t := 34) rfl rfl ?_
  refine wp_getR (t := 35) (ji := 3) rfl fX9_32 rfl rfl (by omega) (by first | rfl | assumption) (zapp_get (v := 34) (by decide +kernel)) ?_
  refine wp_init (c_X0_init (d := d + 4) (o := 70) (Or.inl rfl) (fun _ _ _ => rfl) (zapp_fresh (by decide +kernel))) (t := 36) rfl iX9_46 rfl rfl (Nat.le_of_ble_eq_true rfl) ⟨Nat.le_of_ble_eq_true rfl, Nat.le_of_ble_eq_true rfl⟩ (fun I76 R76 c76 => ?_)
  refine wp_canon (fun hI6 => ?_)
  obtain ⟨rfl, rfl⟩ := c76
  rw [zapp_app]
  refine wp_putL (t := 37) (ji := 5) rfl fX9_47 q9_5 (fun _ => ⟨rfl, rfl⟩) rfl rfl (by omega) (by first | rfl | assumption) rfl ⟨_, _, rfl⟩ ?_
  refine wp_aload_n (t := 38) rfl rfl ?_
  refine wp_new (t := 39) rfl nX9_51 rfl (fun j => by first | exact hI _ (by omega) j | (rw [zu_ne (by omega)]; exact hI _ (by omega) j) | (rw [zu_ne (by omega), zu_ne (by omega)]; exact hI _ (by omega) j) | (rw [zu_ne (by omega), zu_ne (by omega), zu_ne (by omega)]; exact hI _ (by omega) j)) (zapp_none (by decide +kernel) (fun _ => rfl)) d5 ⟨Nat.le_of_ble_eq_true rfl, Nat.le_of_ble_eq_true rfl⟩ ?_
  refine wp_dup (t := 40) rfl rfl ?_
  refine wp_aload_n (t := 41) rfl rfl ?_
  refine wp_getR (t := 42) (ji := 3) rfl fX9_32 rfl rfl (by omega) (by first | rfl | assumption) (zapp_get (v := 34) (by decide +kernel)) ?_
  refine wp_init (c_X5_init (d := d + 3) (fun _ _ _ => rfl) (zapp_fresh (by decide +kernel))) (t := 43) rfl iX9_53 rfl rfl (Nat.le_of_ble_eq_true rfl) ⟨Nat.le_of_ble_eq_true rfl, Nat.le_of_ble_eq_true rfl⟩ (fun I91 R91 c91 => ?_)
  refine wp_canon (fun hI7 => ?_)
  obtain ⟨hJ, rfl⟩ := c91
  rw [zapp_app]
  have hI : ∀ b, 93 ≤ b → ∀ j, I91 b j = 0 := fun b hb j => by rw [hJ b (by omega)]; rfl
  refine wp_putL (t := 44) (ji := 6) rfl fX9_54 q9_6 (fun _ => ⟨rfl, rfl⟩) rfl rfl (by omega) (by first | rfl | assumption) rfl ⟨_, _, rfl⟩ ?_
  refine wp_aload_n (t := 45) rfl rfl ?_
  refine wp_bipush (t := 46) rfl (by decide) ?_
  refine wp_newarr (t := 47) (len := 24) rfl rfl (by decide) rfl (fun j => by first | exact hI _ (by omega) j | (rw [zu_ne (by omega)]; exact hI _ (by omega) j) | (rw [zu_ne (by omega), zu_ne (by omega)]; exact hI _ (by omega) j) | (rw [zu_ne (by omega), zu_ne (by omega), zu_ne (by omega)]; exact hI _ (by omega) j)) ⟨Nat.le_of_ble_eq_true rfl, Nat.le_of_ble_eq_true rfl⟩ ?_
  refine wp_putL (t := 48) (ji := 7) rfl fX9_58 q9_7 (fun _ => ⟨rfl, rfl⟩) rfl rfl (by omega) (by first | rfl | assumption) rfl ⟨_, _, rfl⟩ ?_
  refine wp_aload_n (t := 49) rfl rfl ?_
  refine wp_new (t := 50) rfl nX9_62 rfl (fun j => by first | exact hI _ (by omega) j | (rw [zu_ne (by omega)]; exact hI _ (by omega) j) | (rw [zu_ne (by omega), zu_ne (by omega)]; exact hI _ (by omega) j) | (rw [zu_ne (by omega), zu_ne (by omega), zu_ne (by omega)]; exact hI _ (by omega) j)) (zapp_none (by decide +kernel) (fun _ => rfl)) d6 ⟨Nat.le_of_ble_eq_true rfl, Nat.le_of_ble_eq_true rfl⟩ ?_
  refine wp_dup (t := 51) rfl rfl ?_
  refine wp_bipush (t := 52) rfl (by decide) ?_
  refine wp_init (c_X6_init8 (d := d + 4) (fun b hb j => hI b (by omega) j) (zapp_fresh (by decide +kernel))) (t := 53) rfl iX9_64 rfl rfl (Nat.le_of_ble_eq_true rfl) ⟨Nat.le_of_ble_eq_true rfl, Nat.le_of_ble_eq_true rfl⟩ (fun I112 R112 c112 => ?_)
  refine wp_canon (fun hI8 => ?_)
  obtain ⟨rfl, rfl⟩ := c112
  rw [zu_same (hI 95 (by omega) 1), zapp_app]
  refine wp_putL (t := 54) (ji := 8) rfl fX9_67 q9_8 (fun _ => ⟨rfl, rfl⟩) rfl rfl (by omega) (by first | rfl | assumption) rfl ⟨_, _, rfl⟩ ?_
  refine wp_aload_n (t := 55) rfl rfl ?_
  refine wp_new (t := 56) rfl nX9_62 rfl (fun j => by first | exact hI _ (by omega) j | (rw [zu_ne (by omega)]; exact hI _ (by omega) j) | (rw [zu_ne (by omega), zu_ne (by omega)]; exact hI _ (by omega) j) | (rw [zu_ne (by omega), zu_ne (by omega), zu_ne (by omega)]; exact hI _ (by omega) j)) (zapp_none (by decide +kernel) (fun _ => rfl)) d6 ⟨Nat.le_of_ble_eq_true rfl, Nat.le_of_ble_eq_true rfl⟩ ?_
  refine wp_dup (t := 57) rfl rfl ?_
  refine wp_iconst (t := 58) rfl ?_
  refine wp_init (c_X6_init2 (d := d + 4) (fun b hb j => hI b (by omega) j) (zapp_fresh (by decide +kernel))) (t := 59) rfl iX9_64 rfl rfl (Nat.le_of_ble_eq_true rfl) ⟨Nat.le_of_ble_eq_true rfl, Nat.le_of_ble_eq_true rfl⟩ (fun I124 R124 c124 => ?_)
  refine wp_canon (fun hI9 => ?_)
  obtain ⟨rfl, rfl⟩ := c124
  rw [zu_same (hI 105 (by omega) 1), zapp_app]
  refine wp_putL (t := 60) (ji := 9) rfl fX9_71 q9_9 (fun _ => ⟨rfl, rfl⟩) rfl rfl (by omega) (by first | rfl | assumption) rfl ⟨_, _, rfl⟩ ?_
  refine wp_aload_n (t := 61) rfl rfl ?_
  refine wp_new (t := 62) rfl nX9_74 rfl (fun j => by first | exact hI _ (by omega) j | (rw [zu_ne (by omega)]; exact hI _ (by omega) j) | (rw [zu_ne (by omega), zu_ne (by omega)]; exact hI _ (by omega) j) | (rw [zu_ne (by omega), zu_ne (by omega), zu_ne (by omega)]; exact hI _ (by omega) j)) (zapp_none (by decide +kernel) (fun _ => rfl)) d1 ⟨Nat.le_of_ble_eq_true rfl, Nat.le_of_ble_eq_true rfl⟩ ?_
  refine wp_dup (t := 63) rfl rfl ?_
  refine wp_initN (c_X1_init (d := d + 4) (fun b hb j => hI b (by omega) j) (zapp_fresh (by decide +kernel))) (t := 64) rfl rfl jN_76 rfl rfl (Nat.le_of_ble_eq_true rfl) ⟨Nat.le_of_ble_eq_true rfl, Nat.le_of_ble_eq_true rfl⟩ (fun I135 R135 c135 => ?_)
  refine wp_canon (fun hI10 => ?_)
  obtain ⟨rfl, rfl⟩ := c135
  rw [zu_same (hI 109 (by omega) 1), zapp_app]
  refine wp_putL (t := 65) (ji := 10) rfl fX9_77 q9_10 (fun _ => ⟨rfl, rfl⟩) rfl rfl (by omega) (by first | rfl | assumption) rfl ⟨_, _, rfl⟩ ?_
  refine wp_aload_n (t := 66) rfl rfl ?_
  refine wp_new (t := 67) rfl nX9_81 rfl (fun j => by first | exact hI _ (by omega) j | (rw [zu_ne (by omega)]; exact hI _ (by omega) j) | (rw [zu_ne (by omega), zu_ne (by omega)]; exact hI _ (by omega) j) | (rw [zu_ne (by omega), zu_ne (by omega), zu_ne (by omega)]; exact hI _ (by omega) j)) (zapp_none (by decide +kernel) (fun _ => rfl)) d7 ⟨Nat.le_of_ble_eq_true rfl, Nat.le_of_ble_eq_true rfl⟩ ?_
  refine wp_dup (t := 68) rfl rfl ?_
  refine wp_aload_n (t := 69) rfl rfl ?_
  refine wp_getR (t := 70) (ji := 3) rfl fX9_32 rfl rfl (by omega) (by first | rfl | assumption) (zapp_get (v := 34) (by decide +kernel)) ?_
  refine wp_init (c_X7_init (d := d + 4) (fun b hb j => hI b (by omega) j) (zapp_fresh (by decide +kernel))) (t := 71) rfl iX9_83 rfl rfl (Nat.le_of_ble_eq_true rfl) ⟨Nat.le_of_ble_eq_true rfl, Nat.le_of_ble_eq_true rfl⟩ (fun I150 R150 c150 => ?_)
  refine wp_canon (fun hI11 => ?_)
  obtain ⟨rfl, rfl⟩ := c150
  rw [zu_same (hI 111 (by omega) 4), zapp_app]
  refine wp_putL (t := 72) (ji := 11) rfl fX9_84 q9_11 (fun _ => ⟨rfl, rfl⟩) rfl rfl (by omega) (by first | rfl | assumption) rfl ⟨_, _, rfl⟩ ?_
  refine wp_iconst (t := 73) rfl ?_
  refine wp_istore_n (t := 74) rfl (by decide) rfl ?_
  refine wp_tagR (fun L hLe => ?_)
  have hW : zWir 115 (zapp zR0 L) := zWir_app zWir_0 (by rw [← hLe]; decide +kernel) (by decide +kernel) (by rw [← hLe]; decide +kernel)
  have h8 : ∀ k : Nat, k < 8 → zlk L 96 (k : Int) = some (97 + k) := by rw [← hLe]; decide +kernel
  have h2 : ∀ k : Nat, k < 2 → zlk L 106 (k : Int) = some (107 + k) := by rw [← hLe]; decide +kernel
  have hs1 : zShf 95 8 (zapp zR0 L) rho10 := zShf_mk (fun _ => rfl) (fun k hk => zapp_get (h8 k hk))
  have hs2 : zShf 105 2 (zapp zR0 L) rho20 := zShf_mk (fun _ => rfl) (fun k hk => zapp_get (h2 k hk))
  have hn0 : ∀ b : Nat, 115 ≤ b → ∀ j, zapp zR0 L b j = none := zapp_fresh (by rw [← hLe]; decide +kernel)
  clear hLe
  generalize zapp zR0 L = R9 at hW hs1 hs2 hn0 ⊢
  have key : ∀ (m : Nat) (i : Int) (K : zMem), 0 ≤ i → i ≤ 75 → (75 - i).toNat = m → K 1 1 = i → (∀ p : Int, 0 ≤ p → p < i → K 2 p = zT0 p) → (∀ b : Nat, 115 ≤ b → ∀ j, K b j = 0) → WP G mX9_init (d + 6) 114 1698 114 1698 158 [some (zR 0), some (zI i)] [] 115 K R9 (zP0 (fun I' R' => cI9 I' ∧ cR9 R')) := ?_
  · exact key 75 0 I91 (Int.le_refl _) (by decide) rfl (by rw [hJ 1 (by decide)]; rfl) (fun p p0 p1 => absurd p1 (by omega)) (fun b hb j => hI b (by omega) j)
  intro m
  induction m with
  | zero =>
    intro i K i0 i1 hm k1 k2 k3
    obtain rfl : i = 75 := by omega
    exact zX9_tail hW hs1 hs2 hn0 k1 k2 k3
  | succ m ih =>
    intro i K i0 i1 hm k1 k2 k3
    exact zX9_body hW i0 (by omega) k1 (fun K1 e11 e2 e3 => ih (i + 1) K1 (by omega) (by omega) (by omega) e11 (fun p p0 p1 => (e2 p p0 p1).trans (if q : p = i then (if_pos q).trans (by rw [q]) else (if_neg q).trans (k2 p p0 (by omega)))) (fun b hb j => by rw [e3 b hb]; exact k3 b hb j))
