/-! THE CLAIM OUT OF ONE WALK OF THE LAW'S BODY. Your part is whole_start (and what it stands on); all else here is the same for every law, but numbers. -/
def R_law : String := "CoreTestsLaw"
def lw_P (b : Addr) (xs : List Int32) (args : Array Value) (s : State) : Prop := args = #[.ref b] ∧ s.IntsAt b xs ∧ xs.length ≤ 2048 ∧ (Jvm.Cond.and given_1 narrow_1).before args s = true
def lw_Q (_ : Array Value) (s : State) (o : Outcome) (t : State) : Prop := o = .returned (some (.int 1)) ∧ Framed s o t [] 600000 7302250
def lw_Z (below : List Frame) (a : Array Value) (s : State) : State → Prop := fun t => ∃ o, t.status = .running ∧ Ended t below o ∧ lw_Q a s o t
/-- the law's own end, with 1 on the stack, nothing written that was there before, its room as the claim has it -/
theorem lw_ret {p : Program} {l : Launch} {e : Env} {s : State} {m : MethodId} {below : List Frame} {meth : Method} {c : Code} {b : Nat} (hx : p.tables.exec = Jvm.exec) (hb : c.code = code) (hr : meth.sig.returnType = ret) (hlocks : meth.locks = false) {pc : Nat} {H : Heap} {ls : Array Slot} (hdg : decode code pc = .ok (.ireturn, 1)) : W p l e room_1 s m #[Value.ref b] below meth c H [] 600000 7302250 (lw_Z below #[Value.ref b] s) (F0 m pc ls [.int 1]) := by
  intro T hT X
  obtain ⟨fs, hret, hrun, hended, hW, hframe⟩ := X.leave (v := some (.int 1)) (hlocks := hlocks) (fun h => by rw [hr] at h; cases h)
  have hmeth' : T.vm.method? m = some meth := X.method'
  refine ⟨T.setFrames fs, ?_, .returned (some (.int 1)), hrun, hended, rfl, ⟨_, rfl⟩, hW, hframe⟩
  jvm_step X.here [X.here.top, hx, hb, hdg, hmeth', hr, ret, narrow_b1]
  (try refine ⟨rfl, ?_⟩); (try refine ⟨rfl, ?_⟩)
  first | (intro acts; rw [hret _ acts rfl rfl rfl]) | rw [hret _ _ rfl rfl rfl]
  exact Steps.refl _
/-- what holds at the law's entry: the machine, the code, the tables' words (any of lw_tbl by 'hts w (by decide +kernel)'), the script of L ints xs at the cell b, what the Statement gives of the start (any of its parts by flat_of_before) -/
def lw_At (p : Program) (s : State) (m : MethodId) (meth : Method) (c : Code) (b L : Nat) (xs : Nat → Int32) : Prop :=
  p.tables.exec = Jvm.exec ∧ c.code = code ∧ meth.sig.returnType = ret ∧ c.maxLocals = 4 ∧ s.vm.findClass R_law = some m.cls ∧ (∀ w ∈ lw_tbl, w.before #[Value.ref b] s = true) ∧ va_X b L xs s s.heap ∧ b < s.heap.size ∧ meth.locks = false ∧ (Jvm.Cond.and given_1 narrow_1).before #[Value.ref b] s = true
/-! the law's own rows: its script lies below the world -/
def LCx (G : zG) (p : Program) (s : State) (m : MethodId) (b : Nat) (meth : Method) (c : Code) (L : Nat) (xs : Nat → Int32) : Prop := lw_At p s m meth c b L xs ∧ G.2.1 = s.heap.size ∧ zKn G s ∧ L ≤ 2048
def xsI (xs : Nat → Int32) (k : Int) : Int := (xs k.toNat).toInt
theorem xsI_in (xs : Nat → Int32) (k : Int) : zin (xsI xs k) := zin_of _
def WLg (G : zG) (p : Program) (e : Env) (s : State) (m : MethodId) (b : Nat) (below : List Frame) (meth : Method) (c : Code) (lsA : Array Slot) (pc : Nat) (st : List Value) (I : zMem) (R : zRef) : Prop :=
  ∀ (H : Heap) (locs : List Loc), zSt G 143 I R H → va_S (fun a => G.2.1 ≤ a) s.heap H locs → W p G.1 e room_1 s m #[Value.ref b] below meth c H locs 143 2442 (lw_Z below #[Value.ref b] s) (F0 m pc lsA st)
def lLs (G : zG) (b : Nat) (i : Int) : List (Nat × Value) := [(3, .int (Int32.ofInt i)), (2, .ref (G.2.1 + 115)), (1, .ref (G.2.1 + 0)), (0, .ref b)]
section ZLW
variable {G : zG} {p : Program} {e : Env} {s : State} {m : MethodId} {b : Nat} {below : List Frame} {meth : Method} {c : Code} {L : Nat} {xs : Nat → Int32} {lsA : Array Slot} {pc t : Nat} {st : List Value} {I : zMem} {R : zRef} {i : Int}
theorem wl_ref (E : LCx G p s m b meth c L xs) {v : Fin 4} {a : Nat} (hd : tL_law[t]? = some (pc, .aload_n v, 1)) (hl : lsA[(v : Nat)]? = some (.val (.ref a))) (kk : WLg G p e s m b below meth c lsA (pc + 1) (.ref a :: st) I R) : WLg G p e s m b below meth c lsA pc st I R := fun H locs hS hV =>
  lv_aload_n E.1.1 E.1.2.1 (ztok_at tL_law_ok hd) rfl hl (kk H locs hS hV)
theorem wl_arg (E : LCx G p s m b meth c L xs) (hA : lv_has lsA 4 (lLs G b i)) (h0 : 0 ≤ i) (hi : i + 3 < L) (j : Int) (j0 : 0 ≤ j) (j3 : j ≤ 3) (d0 : tL_law[t]? = some (pc, .aload_n 0, 1)) (d1 : tL_law[t + 1]? = some (pc + 1, .iload_n 3, 1)) (d2 : tL_law[t + 2]? = some (pc + 2, .iconst j, 1)) (d3 : tL_law[t + 3]? = some (pc + 3, .iadd, 1)) (d4 : tL_law[t + 4]? = some (pc + 4, .iaload, 1))
    (kk : WLg G p e s m b below meth c lsA (pc + 5) (.int (Int32.ofInt (xsI xs (i + j))) :: st) I R) : WLg G p e s m b below meth c lsA pc st I R := by
  intro H locs hS hV
  obtain ⟨⟨hx, hb, hr, hml, hown, hts, hX, hbl, hlk, hgv⟩, hB, hK, hL⟩ := E
  refine lv_aload_n hx hb (ztok_at tL_law_ok d0) rfl (lv_at hA 3 rfl) ?_
  refine lv_iload_n hx hb (ztok_at tL_law_ok d1) rfl (lv_at hA 0 rfl) ?_
  refine lv_iconst hx hb (ztok_at tL_law_ok d2) (v := Int32.ofInt j) rfl ?_
  refine lv_iadd hx hb (ztok_at tL_law_ok d3) ?_
  rw [← Int32.ofInt_add]
  have h := kk H locs hS hV
  have e9 : Int32.ofInt (xsI xs (i + j)) = xs (i + j).toNat := Int32.ofInt_toInt _
  rw [e9] at h
  refine va_sld hx hb hX hbl (by show ¬ (G.2.1 ≤ b); omega) hV (zvp_in (by omega) (by omega) (by omega)) (ztok_at tL_law_ok d4) ?_
  rw [z32_nat (by omega) (by omega)]
  exact h
theorem wl_eq (E : LCx G p s m b meth c L xs) {x : Int32} {off : Int} (hd : tL_law[t]? = some (pc, .if_icmp .eq off, 3)) (ht : (pc : Int) + off = ((773 : Nat) : Int)) (kk : WLg G p e s m b below meth c lsA 773 st I R) : WLg G p e s m b below meth c lsA pc (.int x :: .int x :: st) I R := fun H locs hS hV =>
  lv_icmp_eq E.1.1 E.1.2.1 (ztok_at tL_law_ok hd) ht (fun _ => kk H locs hS hV) (fun h => absurd rfl h)
theorem wl_call (E : LCx G p s m b meth c L xs) {m2 : zM} {x o na ci d : Nat} {As : List zV} {rest : List Value} {P : Int → zMem → zRef → Prop} (hM : MT G m2 d 0 0 (zR o :: As) 143 I R (zP1 P)) (hd : tL_law[t]? = some (pc, .invokevirtual x, 3)) (hl : zLk RL x m2 na) (hn : As.length = na) (ho : o < 143) (hk : (zlay o).1 = ci) (hci : ∃ T N, vwCl[ci]? = some (m2.1.cls, T, N)) (hst : st = (As.map (zc G.2.1)).reverse ++ .ref (G.2.1 + o) :: rest) (hr : (rest.map fun v => v.category).sum ≤ 8) (hd1 : d ≤ 1000) (hls : lsA.size = 4)
    (kk : ∀ r I' R', P r I' R' → WLg G p e s m b below meth c lsA (pc + 3) (.int (Int32.ofInt r) :: rest) I' R') : WLg G p e s m b below meth c lsA pc st I R := by
  intro H locs hS hV
  obtain ⟨⟨hx, hb, hr2, hml, hown, hts0, hX, hbl, hlk, hgv⟩, hB, hK, hL⟩ := E
  have hts : ∀ w ∈ wsL_law, w.before #[Value.ref b] s = true := fun w hw => hts0 w (wsL_law_in w hw)
  have hown : s.vm.findClass RL = some m.cls := hown
  refine W_sized (fun hsz => ?_)
  have hsz : H.size = G.2.1 + 143 := zsize (k := 143) ⟨by omega, Nat.le_refl _⟩ hS hV hsz
  obtain ⟨l1, l2, l3, l4, l5, l6, l7, l8, l9⟩ := hl
  obtain ⟨T9, N9, hc⟩ := hci
  have hG : GoodIn wsL_law (wsV RL x m2.1.cls m2.1 (zws m2)) := by
    intro w hw
    unfold wsV zws at hw
    simp only [List.mem_append, List.mem_cons, List.not_mem_nil, or_false] at hw
    rcases hw with (rfl | rfl | rfl | rfl) | rfl | hw
    · exact zgood l1
    · exact zgood l2
    · exact zgood l3
    · exact zgood l4
    · exact zgood l5
    · exact zgood hw
  have hcl : ∃ cell : Cell, H[G.2.1 + o]? = some cell ∧ cell.vm.isStatics = false ∧ s.vm.findClass m2.1.cls = some cell.cls := va_recv hK.1 hS.1 (ci := ci) (q0 := o) hc (by rw [zW_get ho, zcell_o hk hc])
  have run := va_runV (p := p) (l := G.1) (e := e) (R := room_1) (s := s) (m := m) (args := #[Value.ref b]) (below := below) (meth := meth) (c := c) (H := H) (locs := locs) (cells := 143) (slots := 2442) (As := As.map (zc G.2.1)) (rest := rest) (b := G.2.1 + o) (n := na) (rm := zrm d 0 0) (g := F0 m pc lsA st) (index := x) ⟨hx, hb, hml, hown, hts⟩ hM (cwV na hts hG rfl rfl rfl ⟨rfl, l6, l7, l8⟩ ⟨by show d + 1 ≤ 2048; omega, by show 8 + (m2.2.2.1 + 11) + 60 * d ≤ 84000; omega⟩) ⟨zpre_blind, hcl, fun U hU hW => ⟨rfl, by rw [hU]; exact hsz, by rw [hU]; exact hS, hK.moved hW (by rw [hU]; exact hV.2.1)⟩⟩ rfl (by rw [List.length_map]; exact hn) hls hst (lv_room hr) (ztok_at tL_law_ok hd) ⟨Nat.le_of_ble_eq_true rfl, Nat.le_of_ble_eq_true rfl⟩
  intro T hT X
  obtain ⟨v, st₀, t9, T', L9, h0, X', hL2, e1, e2, ⟨⟨r9, I', R', hv, hS', hK', r, hr9, hP⟩, hz, hkp⟩, stp⟩ := run T hT X
  subst hr9
  have hv : v = some (.int (Int32.ofInt r)) := by cases hv; rfl
  subst hv
  rw [h0] at hz hkp
  obtain ⟨t2, a1, b1⟩ := kk r I' R' hP T'.heap (locs ++ L9) (by rw [e1]; exact hS') ⟨Nat.le_trans hV.1 (by rw [e1]; exact hz), fun q h1 h2 => by rw [e1, hkp q (Nat.lt_of_lt_of_le h1 hV.1) h2]; exact hV.2.1 q h1 h2, fun q hq => by
      rcases List.mem_append.mp hq with h | h
      · exact hV.2.2 q h
      · exact hL2 q h⟩ T' rfl X'
  exact ⟨t2, stp t2 a1, b1⟩
theorem wl_canon (kk : (∀ a i, zin (I a i)) → WLg G p e s m b below meth c lsA pc st I R) : WLg G p e s m b below meth c lsA pc st I R := fun H locs hS hV => kk hS.2 H locs hS hV
end ZLW
/-! what is left of the class's calls: the reference's cells untouched -/
section ZB9
variable {I I1 : zMem} {R R1 : zRef} {rho1 rho2 : Int → Nat}
theorem b_lay {r : Int} (h : cLayP I r I1) : ∀ b : Nat, 115 ≤ b → I1 b = I b := fun b hb => by
  rcases h with ⟨-, -, f⟩ | ⟨-, -, -, -, -, -, -, -, -, -, -, -, -, f⟩
  · exact f b (by omega) (by omega)
  · exact f b hb
theorem b_put {c w t r : Int} (hW : zWir 143 R) (h : cPutP I R rho1 143 c w t r I1 R1) : (∀ b : Nat, 115 ≤ b → I1 b = I b) ∧ zWir 143 R1 := by
  unfold cPutP at h
  rcases h with ⟨q, a, rfl, rfl⟩ | ⟨q, ⟨q2, a, rfl, rfl⟩ | ⟨q2, q3, a, ⟨w1, w2, w3, w4, hI⟩, rfl⟩ | ⟨q2, q3, K, hr, a2, a⟩⟩
  · exact ⟨fun _ _ => rfl, hW⟩
  · exact ⟨fun _ _ => rfl, hW⟩
  · exact ⟨fun b hb => hI b (by omega) (by omega), hW⟩
  · refine ⟨fun b hb => ?_, hr.2.1⟩
    rw [a2]
    unfold zput
    rw [zu_ne (by omega), zu_ne (by omega), zu_ne (by omega)]
    exact cRem_b hr (by omega) (by omega)
theorem b_take {c r : Int} (hW : zWir 143 R) (h : (¬ (0 ≤ c ∧ c < I 34 2) ∧ r = -1 ∧ I1 = I ∧ R1 = R) ∨ ((0 ≤ c ∧ c < I 34 2) ∧ ((¬ 0 < I 66 c ∧ r = -2 ∧ I1 = I ∧ R1 = R) ∨ (0 < I 66 c ∧ ∃ K : zMem, cRem I K R R1 rho1 143 ∧ I1 = zu (zu (zu K 66 c 0) 67 c 0) 68 c 0 ∧ r = sLen (cS I1 64) (I 34 2).toNat)))) : (∀ b : Nat, 115 ≤ b → I1 b = I b) ∧ zWir 143 R1 := by
  rcases h with ⟨q, a, rfl, rfl⟩ | ⟨q, ⟨q2, a, rfl, rfl⟩ | ⟨q2, K, hr, a2, a⟩⟩
  · exact ⟨fun _ _ => rfl, hW⟩
  · exact ⟨fun _ _ => rfl, hW⟩
  · refine ⟨fun b hb => ?_, hr.2.1⟩
    rw [a2, zu_ne (by omega), zu_ne (by omega), zu_ne (by omega)]
    exact cRem_b hr (by omega) (by omega)
theorem b_rename {c k r : Int} (hW : zWir 143 R) (h : (¬ ((0 ≤ c ∧ c < I 34 2) ∧ 0 ≤ k ∧ k ≤ 3) ∧ r = -1 ∧ I1 = I ∧ R1 = R) ∨ (((0 ≤ c ∧ c < I 34 2) ∧ 0 ≤ k ∧ k ≤ 3) ∧ (((I 65 c = k ∨ 0 < I 66 c) ∧ r = -2 ∧ I1 = I ∧ R1 = R) ∨ (¬ (I 65 c = k ∨ 0 < I 66 c) ∧ r = I 65 c ∧ ∃ K : zMem, cRem I K R R1 rho1 143 ∧ I1 = zu K 65 c k)))) : (∀ b : Nat, 115 ≤ b → I1 b = I b) ∧ zWir 143 R1 := by
  rcases h with ⟨q, a, rfl, rfl⟩ | ⟨q, ⟨q2, a, rfl, rfl⟩ | ⟨q2, a, K, hr, a2⟩⟩
  · exact ⟨fun _ _ => rfl, hW⟩
  · exact ⟨fun _ _ => rfl, hW⟩
  · refine ⟨fun b hb => ?_, hr.2.1⟩
    rw [a2, zu_ne (by omega)]
    exact cRem_b hr (by omega) (by omega)
theorem b_fill {r : Int} (hW : zWir 143 R) (h : cFillP I R rho1 143 r I1 R1) : (∀ b : Nat, 115 ≤ b → I1 b = I b) ∧ zWir 143 R1 := by
  obtain ⟨z, -, ⟨-, -, rfl, -, -, hb⟩ | ⟨-, -, K, hK, -, -, hp, hw, -⟩⟩ := h
  · exact ⟨fun b h9 => hb b (by omega) (by omega) (by omega) (by omega) (by omega) (by omega) (by omega), hW⟩
  · refine ⟨fun b h9 => ?_, hw⟩
    obtain ⟨_, _, _, _, _, p5⟩ := hp
    rw [p5 b (by omega), hK b (by omega) (by omega) (by omega), zwr_na (by omega)]
theorem b_keep {r : Int} (hW : zWir 143 R) (h : (I 105 1 = 2 ∧ r = -3 ∧ I1 = I ∧ R1 = R) ∨ (I 105 1 < 2 ∧ r = I 105 1 + 1 ∧ zPush 105 2 (zwr I 64 94) I1 R1 rho2 94 ∧ zWir 143 R1 ∧ ∀ b : Nat, b ≠ 106 → R1 b = R b)) : (∀ b : Nat, 115 ≤ b → I1 b = I b) ∧ zWir 143 R1 := by
  rcases h with ⟨-, -, rfl, rfl⟩ | ⟨-, -, hp, hw, -⟩
  · exact ⟨fun _ _ => rfl, hW⟩
  · refine ⟨fun b h9 => ?_, hw⟩
    obtain ⟨_, _, _, _, _, p5⟩ := hp
    rw [p5 b (by omega), zwr_na (by omega)]
theorem b_undo {r : Int} (h : (I 95 1 < 1 ∧ r = -2 ∧ I1 = I) ∨ (1 ≤ I 95 1 ∧ r = I 95 1 - 1 ∧ I1 = zrd (zu I 95 1 (I 95 1 - 1)) 64 (rho1 (I 95 1 - 1)))) : ∀ b : Nat, 115 ≤ b → I1 b = I b := fun b hb => by
  rcases h with ⟨-, -, rfl⟩ | ⟨-, -, rfl⟩
  · rfl
  · rw [zrd_na (by omega) (by omega) (by omega) (by omega), zu_ne (by omega)]
theorem b_back {r : Int} (h : (I 105 1 < 1 ∧ r = -2 ∧ I1 = I) ∨ (1 ≤ I 105 1 ∧ r = I 105 1 - 1 ∧ I1 = zu (zrd (zu I 105 1 (I 105 1 - 1)) 64 (rho2 (I 105 1 - 1))) 95 1 0)) : ∀ b : Nat, 115 ≤ b → I1 b = I b := fun b hb => by
  rcases h with ⟨-, -, rfl⟩ | ⟨-, -, rfl⟩
  · rfl
  · rw [zu_ne (by omega), zrd_na (by omega) (by omega) (by omega) (by omega), zu_ne (by omega)]
theorem b_write {x r : Int} (h : (¬ (32 ≤ x ∧ x ≤ 126) ∧ r = -1 ∧ I1 = I) ∨ ((32 ≤ x ∧ x ≤ 126) ∧ I 1 1 = 200 ∧ r = -3 ∧ I1 = I) ∨ ((32 ≤ x ∧ x ≤ 126) ∧ I 1 1 < 200 ∧ r = I 1 1 + 1 ∧ I1 = zu (zu I 2 (I 1 1) x) 1 1 (I 1 1 + 1))) : ∀ b : Nat, 115 ≤ b → I1 b = I b := fun b hb => by
  rcases h with ⟨-, -, rfl⟩ | ⟨-, -, -, rfl⟩ | ⟨-, -, -, rfl⟩
  · rfl
  · rfl
  · rw [zu_ne (by omega), zu_ne (by omega)]
theorem b_seen {c w t r : Int} (h : (¬ ((0 ≤ c ∧ c < I 34 2) ∧ (1 ≤ w ∧ w ≤ I 34 0) ∧ 1 ≤ t ∧ t ≤ 9999) ∧ r = -1 ∧ I1 = I) ∨ (((0 ≤ c ∧ c < I 34 2) ∧ (1 ≤ w ∧ w ≤ I 34 0) ∧ 1 ≤ t ∧ t ≤ 9999) ∧ ((I 111 4 = 6 ∧ r = -3 ∧ I1 = I) ∨ (I 111 4 < 6 ∧ r = I 111 4 + 1 ∧ I1 = zu (zu (zu (zu I 112 (I 111 4) c) 113 (I 111 4) w) 114 (I 111 4) t) 111 4 (I 111 4 + 1))))) : ∀ b : Nat, 115 ≤ b → I1 b = I b := fun b hb => by
  rcases h with ⟨-, -, rfl⟩ | ⟨-, ⟨-, -, rfl⟩ | ⟨-, -, rfl⟩⟩
  · rfl
  · rfl
  · rw [zu_ne (by omega), zu_ne (by omega), zu_ne (by omega), zu_ne (by omega)]
theorem b_src {P Q Z : Prop} {r : Int} (h : (P ∧ r = -1 ∧ I1 = I) ∨ (Q ∧ (∀ b : Nat, (b < 72 ∨ 93 < b) → I1 b = I b) ∧ zCache (bB I) I1 ∧ Z)) (hi : Inv I R rho1 rho2) : (∀ b : Nat, 115 ≤ b → I1 b = I b) ∧ Inv I1 R rho1 rho2 ∧ I1 34 = I 34 := by
  rcases h with ⟨-, -, rfl⟩ | ⟨-, f, hca, -⟩
  · exact ⟨fun _ _ => rfl, hi, rfl⟩
  · exact ⟨fun b hb => f b (by omega), Inv_src f hca hi, f 34 (by omega)⟩
theorem j_fk2 (hi : Inv I R rho1 rho2) (hI : ∀ b : Nat, 115 ≤ b → I1 b = I b) : ∀ c : Int, 0 ≤ c → c < I1 115 2 → (0 ≤ I1 122 c ∧ I1 122 c ≤ 3) ∧ (¬ 0 < I1 122 (6 + c) → I1 122 (12 + c) = 0) := fun c c0 c1 => by
  rw [hI 115 (by omega), hi.2.1.2.2.1.2.2.1] at c1
  obtain ⟨⟨p1, p2, p3, p4⟩, q1, q2, q3⟩ := hi.2.2.1.1 c c0 c1
  rw [hI 122 (by omega), q1, q2, q3]
  exact ⟨p1, fun z => (p3 z).1⟩
theorem j_tx (hi : Inv I R rho1 rho2) (hI : ∀ b : Nat, 115 ≤ b → I1 b = I b) : 0 ≤ I1 115 20 ∧ I1 115 20 ≤ 200 := by
  rw [hI 115 (by omega), ← hi.1.1]
  exact hi.1.2.1
theorem j_12 (hi : Inv I R rho1 rho2) (hI : ∀ b : Nat, 115 ≤ b → I1 b = I b) : 0 ≤ I1 115 12 ∧ I1 115 12 ≤ 8 := by
  rw [hI 115 (by omega), hi.2.2.2.1.1]
  exact hi.2.2.2.1.2.1
theorem j_16 (hi : Inv I R rho1 rho2) (hI : ∀ b : Nat, 115 ≤ b → I1 b = I b) : 0 ≤ I1 115 16 ∧ I1 115 16 ≤ 2 := by
  rw [hI 115 (by omega), hi.2.2.2.2.1.1]
  exact hi.2.2.2.2.1.2.1
theorem j_18 (hi : Inv I R rho1 rho2) (hI : ∀ b : Nat, 115 ≤ b → I1 b = I b) : 0 ≤ I1 115 18 ∧ I1 115 18 ≤ 4 := by
  rw [hI 115 (by omega), hi.2.2.2.2.2.1.1]
  exact hi.2.2.2.2.2.1.2.1
theorem j_14 (hi : Inv I R rho1 rho2) (hI : ∀ b : Nat, 115 ≤ b → I1 b = I b) : (0 ≤ I1 115 2 ∧ I1 115 2 ≤ 6) ∧ 0 ≤ I1 115 14 ∧ I1 115 14 ≤ 6 := by
  have h1 := hi.2.1.1.1
  have h2 := hi.2.2.2.2.2.2.1.1.1
  rw [hI 115 (by omega), hi.2.1.2.2.1.2.2.1, hi.2.2.2.2.2.2.1.2.1]
  exact ⟨by omega, h2⟩
end ZB9
