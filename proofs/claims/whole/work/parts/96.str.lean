/-! the text that the class begins with: String's own methods, called on it -/
def zSA (B adK adV : Nat) (s : State) : Prop := vk_R "CoreTests" 88 zTxt adK s ∧ vk_S 1 [75] [zBy] (fun _ => adK) (fun _ => adV) (fun a => B ≤ a) s s.heap ∧ va_Z "java/lang/String" "COMPACT_STRINGS" "Z" (.int 1) (fun a => B ≤ a) s s.heap ∧ ∃ w : Value, w.category = 1 ∧ va_Z "jdk/internal/util/Preconditions" "SIOOBE_FORMATTER" "Ljava/util/function/BiFunction;" w (fun a => B ≤ a) s s.heap
theorem zSA.moved {B adK adV : Nat} {u U : State} (h : zSA B adK adV u) (hW : u.WarmedH U.vm) (hq : ∀ a : Nat, a < u.heap.size → ¬ B ≤ a → U.heap[a]? = u.heap[a]?) : zSA B adK adV U := by
  obtain ⟨h1, h2, h3, w, hw, h4⟩ := h
  exact ⟨h1.warm hW, (vk_S.moved hW.alike h2).kept hq, (va_Z.moved hW.alike h3).kept hq, w, hw, (va_Z.moved hW.alike h4).kept hq⟩
theorem zStr_SA {B : Nat} {s : State} (h : zStr B s) : ∃ adK adV : Nat, zSA B adK adV s := h.2
def MVp (G : zG) (n : Nat) (I : zMem) (R : zRef) (adK adV : Nat) (vs : List Value) : Array Value → State → Prop := va_Pc vs (fun U => U.heap.size = G.2.1 + n ∧ zSt G n I R U.heap ∧ zKn G U ∧ zSA G.2.1 adK adV U)
def MVq (G : zG) (n : Nat) (I : zMem) (R : zRef) (x : Option Int) : Array Value → State → Outcome → State → Prop := zQ G n (fun r I' R' => r = x ∧ I' = I ∧ R' = R)
/-- a method of the JDK that only reads: what it answers -/
def MV (G : zG) (mi : zM) (d : Nat) (vs : List Value) (n : Nat) (I : zMem) (R : zRef) (adK adV : Nat) (x : Option Int) : Prop :=
  Met G.1 mi.1 (zws mi) (zrm d 0 0) (MVp G n I R adK adV vs) (MVq G n I R x) 0 0 (fun a => G.2.1 ≤ a)
theorem zpre_blindV {G : zG} {n : Nat} {I : zMem} {R : zRef} {adK adV : Nat} {vs : List Value} : FrameBlind (MVp G n I R adK adV vs) := fun a U g mk h => by
  obtain ⟨h0, h1, h2, h3, h4⟩ := h
  exact ⟨h0, h1, h2, zKn.moved (u := U) (U := U.calling g mk a) h3 (State.WarmedH.refl U) (fun _ _ _ => rfl), zSA.moved (u := U) (U := U.calling g mk a) h4 (State.WarmedH.refl U) (fun _ _ _ => rfl)⟩
theorem MV.of {G : zG} {mi : zM} {d : Nat} {vs : List Value} {n : Nat} {I : zMem} {R : zRef} {adK adV : Nat} {x : Option Int} (hy : plainName mi.1.cls = true) (hok : ztok mi.2.1 mi.2.2.2.2 = true) (hn : (lg_sl vs).length ≤ mi.2.2.1)
    (h : ∀ (p : Program) (e : Env) (s : State) (m : MethodId) (args : Array Value) (below : List Frame) (meth : Method) (c : Code) (lsA : Array Slot),
      zFix G mi p s m args meth c → s.heap.size = G.2.1 + n → zSt G n I R s.heap → zSA G.2.1 adK adV s → lv_has lsA mi.2.2.1 (lv_args 0 vs) →
      W p G.1 e (zrm d 0 0) s m args below meth c s.heap [] 0 0 (MQ below (MVq G n I R x) args s 0 0 (fun a => G.2.1 ≤ a)) (F0 m 0 lsA [])) : MV G mi d vs n I R adK adV x := by
  refine Met.ofW (cc := mi.2.1) (maxL := mi.2.2.1) (ret := mi.2.2.2.1) hy rfl ?_
  intro p e s m args below meth c s₁ B hml hv
  obtain ⟨rfl, hsz, hst, hK, hA⟩ := hv
  have hx := B.exec
  have hb := B.bytes
  have hr := B.returns
  have hts := atoms_spec (ws := zws mi) B.pre
  have hown : s.vm.findClass mi.1.cls = some m.cls := findClass_of_methodNamed B.named
  have hlocks := B.notSynchronized
  have hnm : meth.name = mi.1.name := (name_of_methodNamed B.named B.method).1
  have hl := lv_entry vs (n := mi.2.2.1) hn
  rw [lg_entry_eq]
  exact h p e s m _ below meth c _ ⟨hx, hb, hml, hown, fun w hw => hts w (List.mem_cons_of_mem _ hw), hr, hlocks, hnm, hK, hok⟩ hsz hst hA hl
/-- a static method of another class -/
def zLt (own : String) (x : Nat) (m2 : zM) (na : Nat) : Prop := Cond.methodLink own x m2.1 ∈ wsL_law ∧ Cond.static m2.1 ∈ wsL_law ∧ Cond.initialized m2.1.cls ∈ wsL_law ∧ Cond.code m2.1 m2.2.1 m2.2.2.1 m2.2.2.2.1 ∈ wsL_law ∧ m2.1.cls ≠ "java/lang/invoke/MethodHandle" ∧ m2.1.cls ≠ "java/lang/invoke/VarHandle" ∧ (parseMethodDescriptor m2.1.desc).map (fun d => d.parameters.length) = some na
section ZV
variable {G : zG} {mi m2 : zM} {d x na : Nat} {n : Nat} {I : zMem} {R : zRef} {adK adV : Nat} {y : Option Int}
variable {p : Program} {e : Env} {s : State} {m : MethodId} {args : Array Value} {below : List Frame} {meth : Method} {c : Code} {H : Heap} {locs : List Loc} {lsA : Array Slot} {Rm : Room} {k q pc t : Nat} {Q : State → Prop} {st rest As : List Value}
theorem zbackV (hV : va_S (fun a => G.2.1 ≤ a) s.heap H locs) {a : Array Value}
    (hr : va_Run p G.1 e Rm s m args below meth c H locs k q 0 0 (F0 m pc lsA st) rest (MVq G n I R y a) (fun a => G.2.1 ≤ a))
    (kk : ∀ (H1 : Heap) (locs1 : List Loc), zSt G n I R H1 → va_S (fun a => G.2.1 ≤ a) s.heap H1 locs1 → W p G.1 e Rm s m args below meth c H1 locs1 k q Q (F0 m (pc + 3) lsA ((y.map (fun x => Value.int (Int32.ofInt x))).toList ++ rest))) :
    W p G.1 e Rm s m args below meth c H locs k q Q (F0 m pc lsA st) := by
  intro T hT X
  obtain ⟨v, st₀, t, T', L, h0, X', hL2, e1, e2, ⟨⟨r, I', R', hv, hS', hK', hr1, hr2, hr3⟩, hz, hkp⟩, stp⟩ := hr T hT X
  subst hr1
  subst hr2
  subst hr3
  have hv : v = r.map (fun x => .int (Int32.ofInt x)) := by cases hv; rfl
  subst hv
  rw [h0] at hz hkp
  have h := kk T'.heap (locs ++ L) (by rw [e1]; exact hS') ⟨Nat.le_trans hV.1 (by rw [e1]; exact hz), fun q h1 h2 => by rw [e1, hkp q (Nat.lt_of_lt_of_le h1 hV.1) h2]; exact hV.2.1 q h1 h2, fun q hq => by
      rcases List.mem_append.mp hq with h | h
      · exact hV.2.2 q h
      · exact hL2 q h⟩
  obtain ⟨t2, a1, b1⟩ := h T' rfl X'
  exact ⟨t2, stp t2 a1, b1⟩
theorem wv_V {b : Nat} (hM : MV G m2 d (.ref b :: As) n I R adK adV y) (hl : zLk mi.1.cls x m2 na) (hn : As.length = na) (F : zFix G mi p s m args meth c) (hsz : H.size = G.2.1 + n) (hS : zSt G n I R H) (hV : va_S (fun a => G.2.1 ≤ a) s.heap H locs) (hA : zSA G.2.1 adK adV s) (hls : lsA.size = mi.2.2.1)
    (hst : st = As.reverse ++ .ref b :: rest) (hrecv : ∃ cell : Cell, H[b]? = some cell ∧ cell.vm.isStatics = false ∧ s.vm.findClass m2.1.cls = some cell.cls) (hr : (rest.map fun v => v.category).sum ≤ 8) (hdg : mi.2.2.2.2[t]? = some (pc, .invokevirtual x, 3)) (hroom : d + 1 ≤ Rm.frames ∧ 8 + (m2.2.2.1 + 11) + 60 * d ≤ Rm.locals) (hcs : k ≤ Rm.cells ∧ q ≤ Rm.slots)
    (kk : ∀ (H1 : Heap) (locs1 : List Loc), zSt G n I R H1 → va_S (fun a => G.2.1 ≤ a) s.heap H1 locs1 → W p G.1 e Rm s m args below meth c H1 locs1 k q Q (F0 m (pc + 3) lsA ((y.map (fun x => Value.int (Int32.ofInt x))).toList ++ rest))) :
    W p G.1 e Rm s m args below meth c H locs k q Q (F0 m pc lsA st) := by
  obtain ⟨hx, hb, hml, hown, hts, hr2, hlk, hnm, hK, hok⟩ := id F
  obtain ⟨l1, l2, l3, l4, l5, l6, l7, l8, l9⟩ := hl
  have hG : GoodIn wsL_law (wsV mi.1.cls x m2.1.cls m2.1 (zws m2)) := by
    intro w hw
    unfold wsV zws at hw
    simp only [List.mem_append, List.mem_cons, List.not_mem_nil, or_false] at hw
    rcases hw with (rfl | rfl | rfl | rfl) | rfl | hw
    · exact zgood l1
    · exact zgood l2
    · exact zgood l3
    · exact zgood l4
    · exact zgood l5
    · exact zgood hw
  exact zbackV hV (va_runV (As := As) (b := b) (n := na) (rm := zrm d 0 0) ⟨hx, hb, hml, hown, hts⟩ hM (cwV na hts hG rfl rfl rfl ⟨rfl, l6, l7, l8⟩ ⟨hroom.1, hroom.2⟩) ⟨zpre_blindV, hrecv, fun U hU hW => ⟨rfl, by rw [hU]; exact hsz, by rw [hU]; exact hS, hK.moved hW (by rw [hU]; exact hV.2.1), hA.moved hW (by rw [hU]; exact hV.2.1)⟩⟩ rfl hn hls hst (lv_room hr) (ztok_at hok hdg) hcs) kk
theorem wv_S (hM : MV G m2 d As n I R adK adV y) (hl : zLt mi.1.cls x m2 na) (hn : As.length = na) (F : zFix G mi p s m args meth c) (hsz : H.size = G.2.1 + n) (hS : zSt G n I R H) (hV : va_S (fun a => G.2.1 ≤ a) s.heap H locs) (hA : zSA G.2.1 adK adV s) (hls : lsA.size = mi.2.2.1)
    (hst : st = As.reverse ++ rest) (hr : (rest.map fun v => v.category).sum ≤ 8) (hdg : mi.2.2.2.2[t]? = some (pc, .invokestatic x, 3)) (hroom : d + 1 ≤ Rm.frames ∧ 8 + (m2.2.2.1 + 11) + 60 * d ≤ Rm.locals) (hcs : k ≤ Rm.cells ∧ q ≤ Rm.slots)
    (kk : ∀ (H1 : Heap) (locs1 : List Loc), zSt G n I R H1 → va_S (fun a => G.2.1 ≤ a) s.heap H1 locs1 → W p G.1 e Rm s m args below meth c H1 locs1 k q Q (F0 m (pc + 3) lsA ((y.map (fun x => Value.int (Int32.ofInt x))).toList ++ rest))) :
    W p G.1 e Rm s m args below meth c H locs k q Q (F0 m pc lsA st) := by
  obtain ⟨hx, hb, hml, hown, hts, hr2, hlk, hnm, hK, hok⟩ := id F
  obtain ⟨l1, l2, l3, l5, l6, l7, l8⟩ := hl
  have hG : GoodIn wsL_law (zws m2) := by
    intro w hw
    unfold zws at hw
    rcases List.mem_cons.mp hw with rfl | hw
    · exact zgood l5
    · exact zgood hw
  exact zbackV hV (va_runS (As := As) (n := na) (rm := zrm d 0 0) ⟨hx, hb, hml, hown, hts⟩ hM ⟨callB_of na hts hG rfl rfl rfl (hts _ l3) (hts _ l1) ⟨l6, l7, l8⟩ ⟨hroom.1, hroom.2⟩, hts _ l2⟩ ⟨zpre_blindV, fun U hU hW => ⟨rfl, by rw [hU]; exact hsz, by rw [hU]; exact hS, hK.moved hW (by rw [hU]; exact hV.2.1), hA.moved hW (by rw [hU]; exact hV.2.1)⟩⟩ rfl hn hls hst (lv_room hr) (ztok_at hok hdg) hcs) kk
theorem wv_ret {ty : FieldType} {v : Int32} {x : Int} (F : zFix G mi p s m args meth c) (hS : zSt G n I R H) (hV : va_S (fun a => G.2.1 ≤ a) s.heap H locs) (hty : mi.2.2.2.1 = some ty) (hn : narrow ty (.int v) = .int v) (hv : v = Int32.ofInt x) (hdg : mi.2.2.2.2[t]? = some (pc, .ireturn, 1)) :
    W p G.1 e (zrm d 0 0) s m args below meth c H locs 0 0 (MQ below (MVq G n I R (some x)) args s 0 0 (fun a => G.2.1 ≤ a)) (F0 m pc lsA [.int v]) := by
  obtain ⟨hx, hb, hml, hown, hts, hr, hlk, hnm, hK, hok⟩ := id F
  subst hv
  exact W.zret (v := Int32.ofInt x) (ty := ty) hx hb (hr.trans hty) hn (fun t ht hW => ⟨⟨some x, I, R, rfl, by rw [ht]; exact hS, hK.moved hW (by rw [ht]; exact hV.2.1), rfl, rfl, rfl⟩, hV.F ht⟩) hV.2.2 (ztok_at hok hdg) hlk
end ZV
def mJ0_coder : zM := (yJ0_coder_7d493, cJ0_coder_7d493, 1, some .byte, [(0, .getstatic 38, 3), (3, .ifCond .eq 10, 3), (6, .aload_n 0, 1), (7, .getfield 15, 3), (10, .goto 4, 3), (14, .ireturn, 1)])
def mJ0_length : zM := (yJ0_length_8abf5, cJ0_length_8abf5, 1, some .int, [(0, .aload_n 0, 1), (1, .getfield 9, 3), (4, .arraylength, 1), (5, .aload_n 0, 1), (6, .invokevirtual 335, 3), (9, .ishr, 1), (10, .ireturn, 1)])
def mJ0_isLatin1 : zM := (yJ0_isLatin1_aae02, cJ0_isLatin1_aae02, 1, some .boolean, [(0, .getstatic 38, 3), (3, .ifCond .eq 14, 3), (6, .aload_n 0, 1), (7, .getfield 15, 3), (10, .ifCond .ne 7, 3), (13, .iconst 1, 1), (14, .goto 4, 3), (18, .ireturn, 1)])
def mJ0_charAt : zM := (yJ0_charAt_5068e, cJ0_charAt_5068e, 2, some .char, [(0, .aload_n 0, 1), (1, .invokevirtual 492, 3), (4, .ifCond .eq 12, 3), (7, .aload_n 0, 1), (8, .getfield 9, 3), (11, .iload_n 1, 1), (12, .invokestatic 495, 3), (15, .ireturn, 1)])
def mJ1_charAt : zM := (yJ1_charAt_3b067, cJ1_charAt_3b067, 2, some .char, [(0, .iload_n 1, 1), (1, .aload_n 0, 1), (2, .arraylength, 1), (3, .invokestatic 9, 3), (6, .aload_n 0, 1), (7, .iload_n 1, 1), (8, .baload, 1), (9, .sipush 255, 3), (12, .iand, 1), (13, .i2c, 1), (14, .ireturn, 1)])
def mJ0_checkIndex : zM := (yJ0_checkIndex_df160, cJ0_checkIndex_df160, 2, none, [(0, .iload_n 0, 1), (1, .iload_n 1, 1), (2, .getstatic 1053, 3), (5, .invokestatic 1059, 3), (8, .pop, 1), (9, .return_, 1)])
def mJ3_checkIndex : zM := (yJ3_checkIndex_8e157, cJ3_checkIndex_8e157, 3, some .int, [(0, .iload_n 0, 1), (1, .ifCond .lt 8, 3), (4, .iload_n 0, 1), (5, .iload_n 1, 1), (6, .if_icmp .lt 10, 3), (16, .iload_n 0, 1), (17, .ireturn, 1)])
theorem kJ0_coder : zLk RJ0 335 mJ0_coder 0 := ⟨wsL_law_r7_l (List.mem_of_getElem? (i := 1) rfl), wsL_law_r7_l (List.mem_of_getElem? (i := 2) rfl), wsL_law_r7_l (List.mem_of_getElem? (i := 3) rfl), wsL_law_r6_l (List.mem_of_getElem? (i := 22) rfl), wsL_law_r7_l (List.mem_of_getElem? (i := 4) rfl), by decide +kernel, by decide +kernel, by decide +kernel, by decide +kernel⟩
theorem kJ0_length : zLk RX9 90 mJ0_length 0 := ⟨wsL_law_r6_l (List.mem_of_getElem? (i := 19) rfl), wsL_law_r6_l (List.mem_of_getElem? (i := 20) rfl), wsL_law_r6_l (List.mem_of_getElem? (i := 21) rfl), wsL_law_r6_l (List.mem_of_getElem? (i := 22) rfl), wsL_law_r6_l (List.mem_of_getElem? (i := 23) rfl), by decide +kernel, by decide +kernel, by decide +kernel, by decide +kernel⟩
theorem kJ0_isLatin1 : zLk RJ0 492 mJ0_isLatin1 0 := ⟨wsL_law_r7_l (List.mem_of_getElem? (i := 11) rfl), wsL_law_r7_l (List.mem_of_getElem? (i := 12) rfl), wsL_law_r7_l (List.mem_of_getElem? (i := 13) rfl), wsL_law_r6_l (List.mem_of_getElem? (i := 22) rfl), wsL_law_r7_l (List.mem_of_getElem? (i := 14) rfl), by decide +kernel, by decide +kernel, by decide +kernel, by decide +kernel⟩
theorem kJ0_charAt : zLk RX9 96 mJ0_charAt 1 := ⟨wsL_law_r7_l (List.mem_of_getElem? (i := 7) rfl), wsL_law_r7_l (List.mem_of_getElem? (i := 8) rfl), wsL_law_r7_l (List.mem_of_getElem? (i := 9) rfl), wsL_law_r6_l (List.mem_of_getElem? (i := 22) rfl), wsL_law_r7_l (List.mem_of_getElem? (i := 10) rfl), by decide +kernel, by decide +kernel, by decide +kernel, by decide +kernel⟩
theorem kJ1_charAt : zLt RJ0 495 mJ1_charAt 2 := ⟨wsL_law_r7_l (List.mem_of_getElem? (i := 15) rfl), wsL_law_r7_l (List.mem_of_getElem? (i := 16) rfl), wsL_law_r7_l (List.mem_of_getElem? (i := 17) rfl), wsL_law_r7_l (List.mem_of_getElem? (i := 18) rfl), by decide +kernel, by decide +kernel, by decide +kernel⟩
theorem kJ0_checkIndex : zLt RJ1 9 mJ0_checkIndex 2 := ⟨wsL_law_r7_l (List.mem_of_getElem? (i := 19) rfl), wsL_law_r7_l (List.mem_of_getElem? (i := 20) rfl), wsL_law_r6_l (List.mem_of_getElem? (i := 22) rfl), wsL_law_r7_l (List.mem_of_getElem? (i := 21) rfl), by decide +kernel, by decide +kernel, by decide +kernel⟩
theorem kJ3_checkIndex : zLt RJ0 1059 mJ3_checkIndex 3 := ⟨wsL_law_r7_l (List.mem_of_getElem? (i := 23) rfl), wsL_law_r8_l (List.mem_of_getElem? (i := 0) rfl), wsL_law_r8_l (List.mem_of_getElem? (i := 1) rfl), wsL_law_r8_l (List.mem_of_getElem? (i := 2) rfl), by decide +kernel, by decide +kernel, by decide +kernel⟩
theorem jfCompact : Cond.fieldLink RJ0 38 "java/lang/String" "COMPACT_STRINGS" "Z" ∈ wsL_law := wsL_law_r7_l (List.mem_of_getElem? (i := 5) rfl)
theorem jfCoder : Cond.fieldLink RJ0 15 "java/lang/String" "coder" "B" ∈ wsL_law := wsL_law_r7_l (List.mem_of_getElem? (i := 6) rfl)
theorem jfValue : Cond.fieldLink RJ0 9 "java/lang/String" "value" "[B" ∈ wsL_law := wsL_law_r7_l (List.mem_of_getElem? (i := 0) rfl)
theorem jfFormat : Cond.fieldLink RJ0 1053 "jdk/internal/util/Preconditions" "SIOOBE_FORMATTER" "Ljava/util/function/BiFunction;" ∈ wsL_law := wsL_law_r7_l (List.mem_of_getElem? (i := 22) rfl)
section ZJD
variable {G : zG} {n : Nat} {I : zMem} {R : zRef} {adK adV : Nat}
theorem c_J0_coder (d : Nat) : MV G mJ0_coder d [.ref adK] n I R adK adV (some 0) := by
  refine MV.of (by decide +kernel) (by decide +kernel) (by show 1 ≤ 1; omega) (fun p e s m args below meth c lsA F hsz hS hA hL => ?_)
  obtain ⟨hx, hb, hml, hown, hts, hr, hlk, hnm, hK, hok⟩ := id F
  have hV : va_S (fun a => G.2.1 ≤ a) s.heap s.heap [] := va_S.rf
  obtain ⟨-, ⟨hE, -⟩, hC, -⟩ := id hA
  have a0 : lsA[0]? = some (.val (.ref adK)) := lv_at hL 0 rfl
  refine va_gets hx hb hC hV hown (hts _ jfCompact) (fun _ h => h) (ztok_at hok (k := 0) rfl) ?_
  refine lv_if_eq hx hb (ztok_at hok (k := 1) rfl) (tgt := 13) (by decide) (fun h => absurd h (by decide)) (fun _ => ?_)
  refine lv_aload_n hx hb (ztok_at hok (k := 2) rfl) rfl a0 ?_
  refine vk_getf hx hb (hE 0 (by omega)).2.1 hV hown (hts _ jfCoder) (fun _ h => h) (ztok_at hok (k := 3) rfl) ?_
  refine lv_goto hx hb (ztok_at hok (k := 4) rfl) (tgt := 14) (by decide) ?_
  exact wv_ret (x := 0) F hS hV rfl rfl rfl (t := 5) rfl
theorem c_J0_isLatin1 (d : Nat) : MV G mJ0_isLatin1 d [.ref adK] n I R adK adV (some 1) := by
  refine MV.of (by decide +kernel) (by decide +kernel) (by show 1 ≤ 1; omega) (fun p e s m args below meth c lsA F hsz hS hA hL => ?_)
  obtain ⟨hx, hb, hml, hown, hts, hr, hlk, hnm, hK, hok⟩ := id F
  have hV : va_S (fun a => G.2.1 ≤ a) s.heap s.heap [] := va_S.rf
  obtain ⟨-, ⟨hE, -⟩, hC, -⟩ := id hA
  have a0 : lsA[0]? = some (.val (.ref adK)) := lv_at hL 0 rfl
  refine va_gets hx hb hC hV hown (hts _ jfCompact) (fun _ h => h) (ztok_at hok (k := 0) rfl) ?_
  refine lv_if_eq hx hb (ztok_at hok (k := 1) rfl) (tgt := 17) (by decide) (fun h => absurd h (by decide)) (fun _ => ?_)
  refine lv_aload_n hx hb (ztok_at hok (k := 2) rfl) rfl a0 ?_
  refine vk_getf hx hb (hE 0 (by omega)).2.1 hV hown (hts _ jfCoder) (fun _ h => h) (ztok_at hok (k := 3) rfl) ?_
  refine lv_if_ne hx hb (ztok_at hok (k := 4) rfl) (tgt := 17) (by decide) (fun h => absurd rfl h) (fun _ => ?_)
  refine lv_iconst hx hb (ztok_at hok (k := 5) rfl) (v := 1) rfl ?_
  refine lv_goto hx hb (ztok_at hok (k := 6) rfl) (tgt := 18) (by decide) ?_
  exact wv_ret (x := 1) F hS hV rfl (by decide) rfl (t := 7) rfl
theorem c_J0_length (d : Nat) : MV G mJ0_length (d + 1) [.ref adK] n I R adK adV (some 75) := by
  refine MV.of (by decide +kernel) (by decide +kernel) (by show 1 ≤ 1; omega) (fun p e s m args below meth c lsA F hsz hS hA hL => ?_)
  obtain ⟨hx, hb, hml, hown, hts, hr, hlk, hnm, hK, hok⟩ := id F
  have hV : va_S (fun a => G.2.1 ≤ a) s.heap s.heap [] := va_S.rf
  obtain ⟨-, hE, hC, -⟩ := id hA
  have a0 : lsA[0]? = some (.val (.ref adK)) := lv_at hL 0 rfl
  refine lv_aload_n hx hb (ztok_at hok (k := 0) rfl) rfl a0 ?_
  refine vk_getf hx hb (hE.1 0 (by omega)).2.2.1 hV hown (hts _ jfValue) (fun _ h => h) (ztok_at hok (k := 1) rfl) ?_
  refine va_tlen hx hb (hE.1 0 (by omega)).2.2.2 hV (v := 75) rfl (ztok_at hok (k := 2) rfl) ?_
  refine lv_aload_n hx hb (ztok_at hok (k := 3) rfl) rfl a0 ?_
  refine wv_V (As := []) (rest := [.int 75]) (c_J0_coder (n := n) (I := I) (R := R) (adV := adV) d) kJ0_coder rfl F hsz hS hV hA hL.1 rfl (vk_recv (i := 0) hE (by omega) hV) (by show 1 ≤ 8; omega) (t := 4) rfl ⟨Nat.le_refl _, by show 8 + (1 + 11) + 60 * d ≤ 60 * (d + 1); omega⟩ ⟨Nat.le_refl _, Nat.le_refl _⟩ (fun H1 locs1 hS1 hV1 => ?_)
  refine lv_ishr hx hb (ztok_at hok (k := 5) rfl) ?_
  exact wv_ret (x := 75) F hS1 hV1 rfl rfl (by decide) (t := 6) rfl
theorem c_J3_checkIndex (d : Nat) {i N : Int} {w : Value} (hw : w.category = 1) (h0 : 0 ≤ i) (h1 : i < N) (hN : N < 2147483648) : MV G mJ3_checkIndex d [.int (Int32.ofInt i), .int (Int32.ofInt N), w] n I R adK adV (some i) := by
  refine MV.of (by decide +kernel) (by decide +kernel) (by
    cases w <;> first | exact Nat.le_refl 3 | exact absurd hw (fun h => by simp [Value.category] at h)) (fun p e s m args below meth c lsA F hsz hS hA hL => ?_)
  obtain ⟨hx, hb, hml, hown, hts, hr, hlk, hnm, hK, hok⟩ := id F
  have hV : va_S (fun a => G.2.1 ≤ a) s.heap s.heap [] := va_S.rf
  have a0 : lsA[0]? = some (.val (.int (Int32.ofInt i))) := lv_at hL 0 rfl
  have a1 : lsA[1]? = some (.val (.int (Int32.ofInt N))) := lv_at hL 1 rfl
  have zi : zin i := ⟨by omega, by omega⟩
  have zN : zin N := ⟨by omega, by omega⟩
  refine lv_iload_n hx hb (ztok_at hok (k := 0) rfl) rfl a0 ?_
  refine lv_if_lt hx hb (ztok_at hok (k := 1) rfl) (tgt := 9) (by decide) (fun h => by have := (z32_lt0 zi).mp h; omega) (fun _ => ?_)
  refine lv_iload_n hx hb (ztok_at hok (k := 2) rfl) rfl a0 ?_
  refine lv_iload_n hx hb (ztok_at hok (k := 3) rfl) rfl a1 ?_
  refine lv_icmp_lt hx hb (ztok_at hok (k := 4) rfl) (tgt := 16) (by decide) (fun _ => ?_) (fun h => absurd ((z32_lt zi zN).mpr h1) h)
  refine lv_iload_n hx hb (ztok_at hok (k := 5) rfl) rfl a0 ?_
  exact wv_ret (x := i) F hS hV rfl rfl rfl (t := 6) rfl
theorem c_J0_checkIndex (d : Nat) {i N : Int} (h0 : 0 ≤ i) (h1 : i < N) (hN : N < 2147483648) : MV G mJ0_checkIndex (d + 1) [.int (Int32.ofInt i), .int (Int32.ofInt N)] n I R adK adV none := by
  refine MV.of (by decide +kernel) (by decide +kernel) (by show 2 ≤ 2; omega) (fun p e s m args below meth c lsA F hsz hS hA hL => ?_)
  obtain ⟨hx, hb, hml, hown, hts, hr, hlk, hnm, hK, hok⟩ := id F
  have hV : va_S (fun a => G.2.1 ≤ a) s.heap s.heap [] := va_S.rf
  obtain ⟨-, -, -, t9, hw9, hF9⟩ := id hA
  have a0 : lsA[0]? = some (.val (.int (Int32.ofInt i))) := lv_at hL 0 rfl
  have a1 : lsA[1]? = some (.val (.int (Int32.ofInt N))) := lv_at hL 1 rfl
  refine lv_iload_n hx hb (ztok_at hok (k := 0) rfl) rfl a0 ?_
  refine lv_iload_n hx hb (ztok_at hok (k := 1) rfl) rfl a1 ?_
  refine va_gets hx hb hF9 hV hown (hts _ jfFormat) (fun _ h => h) (ztok_at hok (k := 2) rfl) ?_
  refine wv_S (As := [.int (Int32.ofInt i), .int (Int32.ofInt N), t9]) (rest := []) (c_J3_checkIndex (n := n) (I := I) (R := R) (adK := adK) (adV := adV) d (w := t9) hw9 h0 h1 hN) kJ3_checkIndex rfl F hsz hS hV hA hL.1 rfl (by show 0 ≤ 8; omega) (t := 3) rfl ⟨Nat.le_refl _, by show 8 + (3 + 11) + 60 * d ≤ 60 * (d + 1); omega⟩ ⟨Nat.le_refl _, Nat.le_refl _⟩ (fun H1 locs1 hS1 hV1 => ?_)
  refine lv_pop hx hb (ztok_at hok (k := 4) rfl) rfl ?_
  exact W.vret hx hb hr (fun t ht hW => ⟨⟨none, I, R, rfl, by rw [ht]; exact hS1, hK.moved hW (by rw [ht]; exact hV1.2.1), rfl, rfl, rfl⟩, hV1.F ht⟩) hV1.2.2 (ztok_at hok (k := 5) rfl) hlk
theorem zT0_ch : ∀ j : Nat, j < 75 → ((zBy.getD j 0 &&& 255).toUInt32 % 65536).toInt32 = Int32.ofInt (zT0 (j : Int)) ∧ narrow .char (.int (Int32.ofInt (zT0 (j : Int)))) = .int (Int32.ofInt (zT0 (j : Int))) := by decide +kernel
theorem c_J1_charAt (d : Nat) {i : Int} (h0 : 0 ≤ i) (h1 : i < 75) : MV G mJ1_charAt (d + 2) [.ref adV, .int (Int32.ofInt i)] n I R adK adV (some (zT0 i)) := by
  refine MV.of (by decide +kernel) (by decide +kernel) (by show 2 ≤ 2; omega) (fun p e s m args below meth c lsA F hsz hS hA hL => ?_)
  obtain ⟨hx, hb, hml, hown, hts, hr, hlk, hnm, hK, hok⟩ := id F
  have hV : va_S (fun a => G.2.1 ≤ a) s.heap s.heap [] := va_S.rf
  obtain ⟨-, hE, -, -⟩ := id hA
  have a0 : lsA[0]? = some (.val (.ref adV)) := lv_at hL 0 rfl
  have a1 : lsA[1]? = some (.val (.int (Int32.ofInt i))) := lv_at hL 1 rfl
  refine lv_iload_n hx hb (ztok_at hok (k := 0) rfl) rfl a1 ?_
  refine lv_aload_n hx hb (ztok_at hok (k := 1) rfl) rfl a0 ?_
  refine va_tlen hx hb (hE.1 0 (by omega)).2.2.2 hV (v := Int32.ofInt 75) rfl (ztok_at hok (k := 2) rfl) ?_
  refine wv_S (As := [.int (Int32.ofInt i), .int (Int32.ofInt 75)]) (rest := []) (c_J0_checkIndex (n := n) (I := I) (R := R) (adK := adK) (adV := adV) d h0 h1 (by omega)) kJ0_checkIndex rfl F hsz hS hV hA hL.1 rfl (by show 0 ≤ 8; omega) (t := 3) rfl ⟨Nat.le_refl _, by show 8 + (2 + 11) + 60 * (d + 1) ≤ 60 * (d + 2); omega⟩ ⟨Nat.le_refl _, Nat.le_refl _⟩ (fun H1 locs1 hS1 hV1 => ?_)
  refine lv_aload_n hx hb (ztok_at hok (k := 4) rfl) rfl a0 ?_
  refine lv_iload_n hx hb (ztok_at hok (k := 5) rfl) rfl a1 ?_
  refine va_tb hx hb (hE.1 0 (by omega)).2.2.2 hV1 (zvp_in (len := 75) h0 h1 (by omega)) (v := .int (zBy.getD i.toNat 0)) (by rw [z32_nat h0 (by omega)]; rfl) (ztok_at hok (k := 6) rfl) ?_
  refine lv_sipush hx hb (ztok_at hok (k := 7) rfl) (v := 255) (by decide) ?_
  refine lv_iand hx hb (ztok_at hok (k := 8) rfl) ?_
  obtain ⟨g1, g2⟩ := zT0_ch i.toNat (by omega)
  rw [Int.toNat_of_nonneg h0] at g1 g2
  refine lv_i2c hx hb (ztok_at hok (k := 9) rfl) g1 ?_
  exact wv_ret (x := zT0 i) F hS1 hV1 rfl g2 rfl (t := 10) rfl
theorem c_J0_charAt (d : Nat) {i : Int} (h0 : 0 ≤ i) (h1 : i < 75) : MV G mJ0_charAt (d + 3) [.ref adK, .int (Int32.ofInt i)] n I R adK adV (some (zT0 i)) := by
  refine MV.of (by decide +kernel) (by decide +kernel) (by show 2 ≤ 2; omega) (fun p e s m args below meth c lsA F hsz hS hA hL => ?_)
  obtain ⟨hx, hb, hml, hown, hts, hr, hlk, hnm, hK, hok⟩ := id F
  have hV : va_S (fun a => G.2.1 ≤ a) s.heap s.heap [] := va_S.rf
  obtain ⟨-, hE, -, -⟩ := id hA
  have a0 : lsA[0]? = some (.val (.ref adK)) := lv_at hL 0 rfl
  have a1 : lsA[1]? = some (.val (.int (Int32.ofInt i))) := lv_at hL 1 rfl
  obtain ⟨g1, g2⟩ := zT0_ch i.toNat (by omega)
  rw [Int.toNat_of_nonneg h0] at g1 g2
  refine lv_aload_n hx hb (ztok_at hok (k := 0) rfl) rfl a0 ?_
  refine wv_V (As := []) (rest := []) (c_J0_isLatin1 (n := n) (I := I) (R := R) (adV := adV) (d + 2)) kJ0_isLatin1 rfl F hsz hS hV hA hL.1 rfl (vk_recv (i := 0) hE (by omega) hV) (by show 0 ≤ 8; omega) (t := 1) rfl ⟨Nat.le_refl _, by show 8 + (1 + 11) + 60 * (d + 2) ≤ 60 * (d + 3); omega⟩ ⟨Nat.le_refl _, Nat.le_refl _⟩ (fun H1 locs1 hS1 hV1 => ?_)
  refine W_sized (fun hsz1 => ?_)
  have hsz1 : H1.size = G.2.1 + n := by have := hV1.1; omega
  refine lv_if_eq hx hb (ztok_at hok (k := 2) rfl) (tgt := 16) (by decide) (fun h => absurd h (by decide)) (fun _ => ?_)
  refine lv_aload_n hx hb (ztok_at hok (k := 3) rfl) rfl a0 ?_
  refine vk_getf hx hb (hE.1 0 (by omega)).2.2.1 hV1 hown (hts _ jfValue) (fun _ h => h) (ztok_at hok (k := 4) rfl) ?_
  refine lv_iload_n hx hb (ztok_at hok (k := 5) rfl) rfl a1 ?_
  refine wv_S (As := [.ref adV, .int (Int32.ofInt i)]) (rest := []) (c_J1_charAt (n := n) (I := I) (R := R) (adK := adK) (adV := adV) d h0 h1) kJ1_charAt rfl F hsz1 hS1 hV1 hA hL.1 rfl (by show 0 ≤ 8; omega) (t := 6) rfl ⟨Nat.le_refl _, by show 8 + (2 + 11) + 60 * (d + 2) ≤ 60 * (d + 3); omega⟩ ⟨Nat.le_refl _, Nat.le_refl _⟩ (fun H2 locs2 hS2 hV2 => ?_)
  exact wv_ret (x := zT0 i) F hS2 hV2 rfl g2 rfl (t := 7) rfl
end ZJD
section ZS
variable {G : zG} {mi : zM} {d mc ms k q pc t t2 t3 : Nat} {ls : List (Option zV)} {st : List zV} {n : Nat} {I : zMem} {R : zRef} {Q : zPo}
/-- the length of the text that the class begins with: ldc, length -/
theorem wp_len88 (hd : mi.2.2.2.2[t]? = some (pc, .ldc 88, 2)) (hd2 : mi.2.2.2.2[t2]? = some (pc + 2, .invokevirtual 90, 3)) (hcl : mi.1.cls = RX9) (hr : st.length ≤ 4) (hcs : k ≤ mc ∧ q ≤ ms) (kk : WP G mi (d + 2) mc ms k q (pc + 5) ls (.inl 75 :: st) n I R Q) : WP G mi (d + 2) mc ms k q pc ls st n I R Q := by
  intro p e s m args below meth c H locs lsA F hZ hS hV hL
  obtain ⟨hx, hb, hml, hown, hts, hr2, hlk, hnm, hK, hok⟩ := id F
  obtain ⟨adK, adV, hA⟩ := zStr_SA hK.2.2
  refine W_sized (fun hsz => ?_)
  have hsz := zsize hZ hS hV hsz
  refine va_ldcS hx hb (own := "CoreTests") (by rw [← hown, hcl]; rfl) hA.1 (ztok_at hok hd) ?_
  refine wv_V (As := []) (rest := st.map (zc G.2.1)) (c_J0_length (n := n) (I := I) (R := R) (adV := adV) d) (by rw [hcl]; exact kJ0_length) rfl F hsz hS hV hA hL.1 rfl (vk_recv (i := 0) hA.2.1 (by omega) hV) (Nat.le_trans (zcats st) (by omega)) hd2 ⟨Nat.le_refl _, by show 8 + (1 + 11) + 60 * (d + 1) ≤ 60 * (d + 2); omega⟩ hcs (fun H1 locs1 hS1 hV1 => ?_)
  exact kk p e s m args below meth c H1 locs1 lsA F hZ hS1 hV1 hL
/-- its letter at i: ldc, iload_1, charAt -/
theorem wp_char88 {i : Int} {v : Fin 4} (hd : mi.2.2.2.2[t]? = some (pc, .ldc 88, 2)) (hd2 : mi.2.2.2.2[t2]? = some (pc + 2, .iload_n v, 1)) (hd3 : mi.2.2.2.2[t3]? = some (pc + 3, .invokevirtual 96, 3)) (hcl : mi.1.cls = RX9) (hl : ls[(v : Nat)]? = some (some (.inl i))) (h0 : 0 ≤ i) (h1 : i < 75) (hr : st.length ≤ 4) (hcs : k ≤ mc ∧ q ≤ ms) (kk : WP G mi (d + 4) mc ms k q (pc + 6) ls (.inl (zT0 i) :: st) n I R Q) : WP G mi (d + 4) mc ms k q pc ls st n I R Q := by
  intro p e s m args below meth c H locs lsA F hZ hS hV hL
  obtain ⟨hx, hb, hml, hown, hts, hr2, hlk, hnm, hK, hok⟩ := id F
  obtain ⟨adK, adV, hA⟩ := zStr_SA hK.2.2
  refine W_sized (fun hsz => ?_)
  have hsz := zsize hZ hS hV hsz
  refine va_ldcS hx hb (own := "CoreTests") (by rw [← hown, hcl]; rfl) hA.1 (ztok_at hok hd) ?_
  refine lv_iload_n hx hb (ztok_at hok hd2) rfl (hL.at hl) ?_
  refine wv_V (As := [.int (Int32.ofInt i)]) (rest := st.map (zc G.2.1)) (c_J0_charAt (n := n) (I := I) (R := R) (adV := adV) d h0 h1) (by rw [hcl]; exact kJ0_charAt) rfl F hsz hS hV hA hL.1 rfl (vk_recv (i := 0) hA.2.1 (by omega) hV) (Nat.le_trans (zcats st) (by omega)) hd3 ⟨Nat.le_refl _, by show 8 + (2 + 11) + 60 * (d + 3) ≤ 60 * (d + 4); omega⟩ hcs (fun H1 locs1 hS1 hV1 => ?_)
  exact kk p e s m args below meth c H1 locs1 lsA F hZ hS1 hV1 hL
end ZS
