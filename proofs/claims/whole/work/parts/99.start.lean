/-! what holds at the law's entry -/
theorem zNw_kn {own : String} {x ci N : Nat} {s : State} {args : Array Value} (h : zNw own x ci N) (hts : ∀ w ∈ wsL_law, w.before args s = true) : ∃ y : ClassId × (Nat → Nat), ∀ q : vw_C, vwCl[ci]? = some q → u_Kn s q.1 q.2.1 q.2.2 y.1 y.2 := by
  obtain ⟨C, T, hc, hin, -, -, l2, -⟩ := h
  obtain ⟨cC, iS, hk⟩ := u_known hts hin (hts _ l2)
  exact ⟨(cC, iS), fun q hq => by
    rw [hc] at hq
    cases hq
    exact hk⟩
theorem zKn_cl {s : State} {args : Array Value} (hts : ∀ w ∈ wsL_law, w.before args s = true) : ∃ D : va_G, ∀ (c : Nat) (q : vw_C), vwCl[c]? = some q → u_Kn s q.1 q.2.1 q.2.2 (D.1 c) (D.2 c) := by
  have h : ∀ c : Nat, ∃ y : ClassId × (Nat → Nat), ∀ q : vw_C, vwCl[c]? = some q → u_Kn s q.1 q.2.1 q.2.2 y.1 y.2 := fun c => by
    match c with
    | 0 => exact zNw_kn nX9_44 hts
    | 1 => exact zNw_kn nX9_74 hts
    | 2 => exact zNw_kn nX9_25 hts
    | 3 => exact zNw_kn nX9_35 hts
    | 4 => exact zNw_kn nX9_16 hts
    | 5 => exact zNw_kn nX9_51 hts
    | 6 => exact zNw_kn nX9_62 hts
    | 7 => exact zNw_kn nX9_81 hts
    | 8 => exact zNw_kn nX9_9 hts
    | 9 => exact zNw_kn nL_7 hts
    | 10 => exact zNw_kn nL_10 hts
    | c + 11 =>
      obtain ⟨y, -⟩ := zNw_kn nL_7 hts
      exact ⟨y, fun q hq => absurd (List.getElem?_eq_some_iff.mp hq).1 (by show ¬ c + 11 < 11; omega)⟩
  obtain ⟨y, hy⟩ := Classical.axiomOfChoice h
  exact ⟨(fun c => (y c).1, fun c => (y c).2), hy⟩
set_option maxHeartbeats 4000000 in
set_option maxRecDepth 100000 in
theorem zStr_start {s : State} {b : Nat} (htb : ∀ w ∈ tables_1, w.before #[Value.ref b] s = true) (hgv : (Jvm.Cond.and given_1 narrow_1).before #[Value.ref b] s = true) : zStr s.heap.size s := by
  have hq := flat_of_before _ hgv
  have hA : ∀ a : Nat, a < s.heap.size → ¬ s.heap.size ≤ a := fun a h => by omega
  obtain ⟨adK, adV, hS, hev⟩ := vk_Sof (args := #[Value.ref b]) (s := s) (N := 1) (tm := fun _ => Term.string "CoreTests" 88) (len := [75]) (byt := [zBy]) (A := fun a => s.heap.size ≤ a)
    (fun i hi => by
      obtain rfl : i = 0 := by omega
      decide)
    (fun i hi => hq _ (by decide +kernel)) (fun i hi => hq _ (by decide +kernel)) (fun i hi => hq _ (by decide +kernel))
    (fun i hi => by
      obtain rfl : i = 0 := by omega
      exact hq _ (by decide +kernel))
    (fun i hi j hj => by
      obtain rfl : i = 0 := by omega
      have hj : j < 75 := hj
      have hm : ∀ j : Nat, j < 75 → (Cond.eq (.elem (.field (Term.string "CoreTests" 88) "java/lang/String" "value" "[B") (.int (Int32.ofNat j))) (.int (zBy.getD j 0))) ∈ flatC (Jvm.Cond.and given_1 narrow_1) := by decide +kernel
      exact hq _ (hm j hj))
    (fun i j hi hj h => absurd (show i = j by omega) h) hA
  refine ⟨fun q hq9 => ?_, adK 0, adV 0, vk_R.of (htb _ (List.mem_of_getElem? (i := 288) (by decide +kernel))) (hev 0 (by omega)), ⟨fun i hi => ?_, fun i j hi hj _ => by omega⟩, va_Zof (htb _ (List.mem_of_getElem? (i := 298) (by decide +kernel))) (htb _ (List.mem_of_getElem? (i := 12) (by decide +kernel))) (va_eqi (hq _ (by decide +kernel))) hA, ?_⟩
  · unfold zNest at hq9
    simp only [List.mem_cons, List.not_mem_nil, or_false] at hq9
    rcases hq9 with rfl | rfl | rfl
    · exact va_Nw.of rfl (htb (.methodLinkNest RX9 11 yX8_init RX9) (List.mem_of_getElem? (i := 28) (by decide +kernel)))
    · exact va_Nw.of rfl (htb (.methodLinkNest RX9 27 yX2_init RX9) (List.mem_of_getElem? (i := 57) (by decide +kernel)))
    · exact va_Nw.of rfl (htb (.methodLinkNest RX9 76 yX1_init RX9) (List.mem_of_getElem? (i := 253) (by decide +kernel)))
  · obtain rfl : i = 0 := by omega
    exact hS.1 0 (by omega)
  · rcases va_Zqof (C := "jdk/internal/util/Preconditions") (n := "SIOOBE_FORMATTER") (d := "Ljava/util/function/BiFunction;") (htb _ (List.mem_of_getElem? (i := 314) (by decide +kernel))) (htb _ (List.mem_of_getElem? (i := 14) (by decide +kernel))) (hq _ (by decide +kernel)) hA with h | ⟨t, h⟩
    · exact ⟨.null, rfl, h⟩
    · exact ⟨.ref t, rfl, h⟩
set_option maxHeartbeats 4000000 in
set_option maxRecDepth 100000 in
theorem zKn_start (l : Launch) {s : State} {b : Nat} (hts0 : ∀ w ∈ lw_tbl, w.before #[Value.ref b] s = true) (hgv : (Jvm.Cond.and given_1 narrow_1).before #[Value.ref b] s = true) : ∃ G : zG, G.1 = l ∧ G.2.1 = s.heap.size ∧ zKn G s := by
  have hts : ∀ w ∈ wsL_law, w.before #[Value.ref b] s = true := fun w hw => hts0 w (wsL_law_in w hw)
  have htb : ∀ w ∈ tables_1, w.before #[Value.ref b] s = true := fun w hw => hts0 w (List.mem_append_right _ hw)
  obtain ⟨D, hD⟩ := zKn_cl hts
  obtain ⟨cI, kI, compI, i1, i2, i3⟩ := Cond.arrayClass_spec (show (Cond.arrayClass .int).holds #[Value.ref b] s none s [] = true from hts _ zarrI)
  have hover : (Cond.arrayOver (.array .int)).before #[Value.ref b] s = true := htb _ (List.mem_of_getElem? (i := 62) (by decide +kernel))
  obtain ⟨comp, cJ, kJ, j1, j2, j3, j4⟩ := Cond.arrayOver_specA (show (Cond.arrayOver (.array .int)).holds #[Value.ref b] s none s [] = true from hover)
  refine ⟨(l, s.heap.size, D, cI, cJ), rfl, rfl, ⟨hD, fun k q hk => ?_⟩, va_AOA.of hover, zStr_start htb hgv⟩
  match k, hk with
  | 0, hk =>
    cases hk
    exact ⟨fun n z => ⟨fun k h => (by cases h), kI, i2, compI, i3⟩, i1⟩
  | 1, hk =>
    cases hk
    exact ⟨fun n z => ⟨fun k h => (by cases h), kJ, j2, comp, j3⟩, j4⟩
  | k + 2, hk => cases hk
theorem Inv_start {J J' : zMem} {R R' : zRef} (h9 : cI9 J) (hR : cR9 R) (hm : mInitP J J') (hW : zWir 143 R') (hk : ∀ b : Nat, b < 115 → R' b = R b) : Inv J' R' rho10 rho20 := by
  obtain ⟨S, hS, he, h1, hr, hl, c3, c4, c5, c6, c7, c8, c9, c10, c11⟩ := h9
  obtain ⟨m1, m12, m14, m16, m18, m20, mb⟩ := hm
  refine Inv_laid (J := J') hS he h1 (cRd_ext (fun b b0 b1 => mb b (by omega)) hS hr) (kCh_l (fun b b0 b1 => mb b (by omega)) (cRd_zCh hr hS hl h1) hl) (fun c c0 cn => by rw [mb 65 (by omega)]; exact c3 c c0 cn) (fun c c0 cn => by
    rw [mb 66 (by omega), mb 67 (by omega), mb 68 (by omega), mb 69 (by omega), mb 34 (by omega), mb 46 (by omega), mb 47 (by omega)]
    exact c4 c c0 cn) (fun l l0 l1 => by rw [mb 85 (by omega)]; exact c5 l l0 l1) (by rw [mb 95 (by omega)]; exact c6) (by rw [mb 105 (by omega)]; exact c7) (by rw [mb 109 (by omega)]; exact c8) (by rw [mb 111 (by omega)]; exact c9) (zSame_laid zP0_ok.2 m1) m12 m14 m16 m18 ?_ ⟨fun k k0 k1 => ?_, hR.2.1.2⟩ ⟨fun k k0 k1 => ?_, hR.2.2.1.2⟩ hW
  · refine ⟨by rw [mb 1 (by omega), c10, m20], by rw [mb 1 (by omega), c10]; decide, fun j j0 j1 => ?_⟩
    rw [mb 1 (by omega), c10] at j1
    omega
  · have e := hR.2.1.1 k k0 k1
    rw [hk (95 + 1) (by omega)]
    exact e
  · have e := hR.2.2.1.1 k k0 k1
    rw [hk (105 + 1) (by omega)]
    exact e
/-! the law's makings -/
section ZLN
variable {G : zG} {p : Program} {e : Env} {s : State} {m : MethodId} {b : Nat} {below : List Frame} {meth : Method} {c : Code} {L : Nat} {xs : Nat → Int32} {lsA : Array Slot} {pc t : Nat} {st : List Value} {I : zMem} {R : zRef} {H : Heap} {locs : List Loc} {n q : Nat} {Z : State → Prop}
theorem wl_new (E : LCx G p s m b meth c L xs) {x ci N : Nat} (hd : tL_law[t]? = some (pc, .new x, 3)) (hl : zNw RL x ci N) (hk : (zlay n).1 = ci) (hI : ∀ j, I n j = 0) (hR : ∀ j, R n j = none) (hdf : ∀ (C : String) (T : u_T), vwCl[ci]? = some (C, T, N) → ∀ j, j < N → ∀ ty, parseFieldDescriptor (T j).2.2.1 = some ty → defaultValue ty = if zfr ci j then .null else .int 0) (hcs : n + 1 ≤ 600000 ∧ q + N ≤ 7302250) (hS : zSt G n I R H) (hV : va_S (fun a => G.2.1 ≤ a) s.heap H locs)
    (kk : ∀ H1 : Heap, zSt G (n + 1) I R H1 → va_S (fun a => G.2.1 ≤ a) s.heap H1 locs → W p G.1 e room_1 s m #[Value.ref b] below meth c H1 locs (n + 1) (q + N) Z (F0 m (pc + 3) lsA (.ref (G.2.1 + n) :: st))) : W p G.1 e room_1 s m #[Value.ref b] below meth c H locs n q Z (F0 m pc lsA st) := by
  obtain ⟨⟨hx, hb, hr2, hml, hown, hts0, hX, hbl, hlk, hgv⟩, hB, hK, hL⟩ := E
  have hts : ∀ w ∈ wsL_law, w.before #[Value.ref b] s = true := fun w hw => hts0 w (wsL_law_in w hw)
  have hown : s.vm.findClass RL = some m.cls := hown
  obtain ⟨C, T, hc, hin, ⟨ty0, hty⟩, l1, l2, l3⟩ := hl
  refine W_sized (fun hsz => ?_)
  have hsz : H.size = G.2.1 + n := zsize (k := n) ⟨by omega, Nat.le_refl _⟩ hS hV hsz
  have hKn := hK.1.1 ci _ hc
  refine W.newcK hx hb hown (hts _ l1) (hts _ l2) (hts _ l3) rfl (ztok_at tL_law_ok hd) hcs.1 hcs.2 hKn.2.1 hsz (fun H1 kC hkC e1 z1 o1 => ?_)
  exact kk H1 ⟨zW_at hS.1 (fun q9 h9 => o1 q9 (by omega)) (by
    rw [zcell_o hk hc]
    refine ⟨_, hc, (u_born ty0 hts hin hKn hkC e1 hty).to (fun j hj => ?_)⟩
    show defaultValue (ty0 j) = List.getD _ _ _
    rw [List.getD_eq_getElem?_getD, zfs_get hj, hI, hR, hdf C T hc j hj _ (hty j hj)]
    rfl), hS.2⟩ ⟨Nat.le_trans hV.1 (by omega), fun x9 h1 h2 => (o1 x9 (Nat.lt_of_lt_of_le h1 (by have := hV.1; omega))).trans (hV.2.1 x9 h1 h2), hV.2.2⟩
theorem wl_init (E : LCx G p s m b meth c L xs) {m2 : zM} {x o na d mc2 ms2 : Nat} {As : List zV} {rest : List Value} {P : zMem → zRef → Prop} (hM : MT G m2 d mc2 ms2 (zR o :: As) n I R (zP0 P)) (hd : tL_law[t]? = some (pc, .invokespecial x, 3)) (hl : zLi RL x m2 na) (hn : As.length = na) (hst : st = (As.map (zc G.2.1)).reverse ++ .ref (G.2.1 + o) :: rest) (hr : (rest.map fun v => v.category).sum ≤ 8) (hd1 : d ≤ 1000) (hls : lsA.size = 4) (hcs : n + mc2 ≤ 600000 ∧ q + ms2 ≤ 7302250) (hS : zSt G n I R H) (hV : va_S (fun a => G.2.1 ≤ a) s.heap H locs)
    (kk : ∀ (I' : zMem) (R' : zRef) (H1 : Heap) (locs1 : List Loc), P I' R' → zSt G (n + mc2) I' R' H1 → va_S (fun a => G.2.1 ≤ a) s.heap H1 locs1 → W p G.1 e room_1 s m #[Value.ref b] below meth c H1 locs1 (n + mc2) (q + ms2) Z (F0 m (pc + 3) lsA rest)) : W p G.1 e room_1 s m #[Value.ref b] below meth c H locs n q Z (F0 m pc lsA st) := by
  obtain ⟨⟨hx, hb, hr2, hml, hown, hts0, hX, hbl, hlk, hgv⟩, hB, hK, hL⟩ := E
  have hts : ∀ w ∈ wsL_law, w.before #[Value.ref b] s = true := fun w hw => hts0 w (wsL_law_in w hw)
  have hown : s.vm.findClass RL = some m.cls := hown
  obtain ⟨l1, l2, l3, l4, l5, l6, l7, l8, l9, l10⟩ := hl
  refine W_sized (fun hsz => ?_)
  have hsz : H.size = G.2.1 + n := zsize (k := n) ⟨by omega, Nat.le_refl _⟩ hS hV hsz
  have hws : zws m2 = Cond.code m2.1 m2.2.1 m2.2.2.1 none :: wsL_law := by unfold zws; rw [l5]
  have hG : GoodIn wsL_law (zws m2) := by
    intro w hw
    rw [hws] at hw
    rcases List.mem_cons.mp hw with rfl | hw
    · exact zgood l4
    · exact zgood hw
  have run := va_runI (p := p) (l := G.1) (e := e) (R := room_1) (s := s) (m := m) (args := #[Value.ref b]) (below := below) (meth := meth) (c := c) (H := H) (locs := locs) (cells := n) (slots := q) (As := As.map (zc G.2.1)) (rest := rest) (b := G.2.1 + o) (n := na) (rm := zrm d mc2 ms2) (g := F0 m pc lsA st) (index := x) ⟨hx, hb, hml, hown, hts⟩ hM (cwI na hts hG hws rfl rfl (hts _ l3) (hts _ l1) (hts _ l2) l6 ⟨l7, l8, l9⟩ ⟨by show d + 1 ≤ 2048; omega, by show 8 + (m2.2.2.1 + 11) + 60 * d ≤ 84000; omega⟩) ⟨zpre_blind, fun U hU hW => ⟨rfl, by rw [hU]; exact hsz, by rw [hU]; exact hS, hK.moved hW (by rw [hU]; exact hV.2.1)⟩⟩ rfl (by rw [List.length_map]; exact hn) hls hst (lv_room hr) (ztok_at tL_law_ok hd) hcs
  intro T hT X
  obtain ⟨v, st₀, t9, T', L9, h0, X', hL2, e1, e2, ⟨⟨r9, I', R', hv, hS', hK', hr9, hP⟩, hz, hkp⟩, stp⟩ := run T hT X
  subst hr9
  have hv : v = none := by cases hv; rfl
  subst hv
  rw [h0] at hz hkp
  obtain ⟨t2, a1, b1⟩ := kk I' R' T'.heap (locs ++ L9) hP (by rw [e1]; exact hS') ⟨Nat.le_trans hV.1 (by rw [e1]; exact hz), fun q h1 h2 => by rw [e1, hkp q (Nat.lt_of_lt_of_le h1 hV.1) h2]; exact hV.2.1 q h1 h2, fun q hq => by
      rcases List.mem_append.mp hq with h | h
      · exact hV.2.2 q h
      · exact hL2 q h⟩ T' rfl X'
  exact ⟨t2, stp t2 a1, b1⟩
end ZLN
