theorem zmaxS : Cond.static Lib.Math.max.name ∈ wsL_law := wsL_law_r6_l (List.mem_of_getElem? (i := 0) rfl)
theorem zmathI : Cond.initialized "java/lang/Math" ∈ wsL_law := wsL_law_r6_l (List.mem_of_getElem? (i := 1) rfl)
theorem zmaxC : Cond.code Lib.Math.max.name Lib.Math.max.code 2 (some .int) ∈ wsL_law := wsL_law_r6_l (List.mem_of_getElem? (i := 2) rfl)
theorem zminS : Cond.static Lib.Math.min.name ∈ wsL_law := wsL_law_r33_l (List.mem_of_getElem? (i := 17) rfl)
theorem zminC : Cond.code Lib.Math.min.name Lib.Math.min.code 2 (some .int) ∈ wsL_law := wsL_law_r33_l (List.mem_of_getElem? (i := 18) rfl)
theorem zcopyN : Cond.native arraycopyName ∈ wsL_law := wsL_law_r26_l (List.mem_of_getElem? (i := 3) rfl)
theorem zcopyS : Cond.static arraycopyName ∈ wsL_law := wsL_law_r26_l (List.mem_of_getElem? (i := 4) rfl)
theorem zcopyI : Cond.initialized "java/lang/System" ∈ wsL_law := wsL_law_r26_l (List.mem_of_getElem? (i := 5) rfl)
/-! fields, arrays, calls -/
def zFd (own : String) (x ci j : Nat) : Prop := ∃ (C : String) (T : u_T) (N : Nat), vwCl[ci]? = some (C, T, N) ∧ j < N ∧ (∀ w ∈ u_ws C T N, w ∈ wsL_law) ∧ Cond.fieldLink own x (T j).1 (T j).2.1 (T j).2.2.1 ∈ wsL_law
/-- what a store needs beside -/
def zFp (ci j : Nat) (b : Bool) (ty : FieldType) : Prop := ∀ (C : String) (T : u_T) (N : Nat), vwCl[ci]? = some (C, T, N) → (∃ ty0 : Nat → FieldType, ∀ k, k < N → parseFieldDescriptor (T k).2.2.1 = some (ty0 k)) ∧ (∀ a, a < N → ∀ b, b < N → a ≠ b → (T a).2.1 ≠ (T b).2.1) ∧ (T j).2.2.2 = b ∧ parseFieldDescriptor (T j).2.2.1 = some ty
theorem zcell_o {B cI cJ ci N : Nat} {C : String} {T : u_T} {g : Nat × Nat} {f : Int → Int} {r : Int → Option Nat} (hg : g.1 = ci) (hc : vwCl[ci]? = some (C, T, N)) :
    zcell B cI cJ g f r = .inr (ci, (List.range N).map (fun j => if zfr ci j then va_rf ((r j).map (B + ·)) else .int (Int32.ofInt (f j)))) := by
  have hlt : ci < 11 := (List.getElem?_eq_some_iff.mp hc).1
  have hn : zfn ci = N := by
    unfold zfn
    rw [List.getD_eq_getElem?_getD, hc]
    rfl
  unfold zcell
  rw [hg, if_neg (by omega), if_neg (by omega), hn]
theorem zcell_a {B cI cJ len : Nat} {g : Nat × Nat} {f : Int → Int} {r : Int → Option Nat} (hg : g = (20, len)) : zcell B cI cJ g f r = .inl (cI, len, .inl (fun j => Int32.ofInt (f j))) := by
  subst hg
  rfl
theorem zcell_A {B cI cJ len : Nat} {g : Nat × Nat} {f : Int → Int} {r : Int → Option Nat} (hg : g = (21, len)) : zcell B cI cJ g f r = .inl (cJ, len, .inr (.inr (.inr (.inr (fun j => (r j).map (B + ·)))))) := by
  subst hg
  rfl
theorem zfs_get {N j : Nat} {F : Nat → Value} (h : j < N) : ((List.range N).map F)[j]? = some (F j) := by
  rw [List.getElem?_map, List.getElem?_range h]
  rfl
theorem zfs_set {N j : Nat} {F F' : Nat → Value} {v : Value} (hv : v = F' j) (h : ∀ k, k ≠ j → F' k = F k) : ((List.range N).map F).set j v = (List.range N).map F' := by
  apply List.ext_getElem?
  intro k
  rw [List.getElem?_set]
  by_cases hk : j = k
  · subst hk
    rw [if_pos rfl]
    by_cases hn : j < N
    · rw [if_pos (by simpa using hn), zfs_get hn, hv]
    · rw [if_neg (by simpa using hn), List.getElem?_eq_none (by simpa using hn)]
  · rw [if_neg hk]
    by_cases hn : k < N
    · rw [zfs_get hn, zfs_get hn, h k (fun q => hk q.symm)]
    · rw [List.getElem?_eq_none (by simpa using hn), List.getElem?_eq_none (by simpa using hn)]
theorem zu_ne {I : zMem} {a b : Nat} {i v : Int} (h : b ≠ a) : zu I a i v b = I b := by
  funext j
  unfold zu
  rw [if_neg (fun q => h q.1)]
theorem zur_ne {R : zRef} {a b : Nat} {i : Int} {v : Option Nat} (h : b ≠ a) : zur R a i v b = R b := by
  funext j
  unfold zur
  rw [if_neg (fun q => h q.1)]
theorem zu_canon {I : zMem} {a : Nat} {i v : Int} (hI : ∀ a i, zin (I a i)) (hv : zin v) : ∀ b j, zin (zu I a i v b j) := by
  intro b j
  unfold zu
  split
  · exact hv
  · exact hI b j
theorem z32_nat {i : Int} (h0 : 0 ≤ i) (h1 : i < 2147483648) : (Int32.ofInt i).toNatClampNeg = i.toNat := Int32.toNatClampNeg_ofInt_of_le (by omega) (by omega)
theorem zvp_in {i : Int} {len : Nat} (h0 : 0 ≤ i) (h1 : i < len) (hl : len < 2147483648) : vp_in (Int32.ofInt i) len := by
  rw [vp_in_iff, z32 (by unfold zin; omega)]
  exact ⟨h0, h1⟩
section ZM
variable {G : zG} {mi : zM} {d mc ms k q pc t : Nat} {ls : List (Option zV)} {st : List zV} {n : Nat} {I : zMem} {R : zRef} {Q : zPo}
theorem wp_getI {x ci j o : Nat} {ji : Int} (hd : mi.2.2.2.2[t]? = some (pc, .getfield x, 3)) (hf : zFd mi.1.cls x ci j) (hfr : zfr ci j = false) (hji : ((j : Nat) : Int) = ji) (ho : o < n) (hk : (zlay o).1 = ci) (kk : WP G mi d mc ms k q (pc + 3) ls (.inl (I o ji) :: st) n I R Q) : WP G mi d mc ms k q pc ls (zR o :: st) n I R Q := by
  intro p e s m args below meth c H locs lsA F hZ hS hV hL
  obtain ⟨hx, hb, hml, hown, hts, hr, hlk, hnm, hK, hok⟩ := id F
  obtain ⟨C, T, N, hc, hj, hin, hw⟩ := hf
  subst hji
  exact va_get (ref := (T j).1) hx hb hts hin hown hK.1 hS.1 o (by rw [zW_get ho, zcell_o hk hc]) hc j hj (hts _ hw) (fun _ h => h) (v := .int (Int32.ofInt (I o j))) (by rw [zfs_get hj, hfr]; rfl) (ztok_at hok hd) (kk p e s m args below meth c H locs lsA F hZ hS hV hL)
theorem wp_getR {x ci j o r : Nat} {ji : Int} (hd : mi.2.2.2.2[t]? = some (pc, .getfield x, 3)) (hf : zFd mi.1.cls x ci j) (hfr : zfr ci j = true) (hji : ((j : Nat) : Int) = ji) (ho : o < n) (hk : (zlay o).1 = ci) (hR : R o ji = some r) (kk : WP G mi d mc ms k q (pc + 3) ls (zR r :: st) n I R Q) : WP G mi d mc ms k q pc ls (zR o :: st) n I R Q := by
  intro p e s m args below meth c H locs lsA F hZ hS hV hL
  obtain ⟨hx, hb, hml, hown, hts, hr, hlk, hnm, hK, hok⟩ := id F
  obtain ⟨C, T, N, hc, hj, hin, hw⟩ := hf
  subst hji
  exact va_get (ref := (T j).1) hx hb hts hin hown hK.1 hS.1 o (by rw [zW_get ho, zcell_o hk hc]) hc j hj (hts _ hw) (fun _ h => h) (v := .ref (G.2.1 + r)) (by rw [zfs_get hj, hfr, hR]; rfl) (ztok_at hok hd) (kk p e s m args below meth c H locs lsA F hZ hS hV hL)
theorem wp_putI {x ci j o : Nat} {ji v : Int} (hd : mi.2.2.2.2[t]? = some (pc, .putfield x, 3)) (hf : zFd mi.1.cls x ci j) (hp : zFp ci j false .int) (hfr : zfr ci j = false) (hji : ((j : Nat) : Int) = ji) (ho : o < n) (hk : (zlay o).1 = ci) (hv : zin v) (kk : WP G mi d mc ms k q (pc + 3) ls st n (zu I o ji v) R Q) : WP G mi d mc ms k q pc ls (.inl v :: zR o :: st) n I R Q := by
  intro p e s m args below meth c H locs lsA F hZ hS hV hL
  obtain ⟨hx, hb, hml, hown, hts, hr, hlk, hnm, hK, hok⟩ := id F
  obtain ⟨C, T, N, hc, hj, hin, hw⟩ := hf
  obtain ⟨⟨ty0, hty⟩, hnmT, hfin, hpd⟩ := hp C T N hc
  subst hji
  refine va_put (ref := (T j).1) hx hb hts hin ty0 hty hnmT hown hK.1 hS.1 zW_D hV o (by rw [zW_get ho, zcell_o hk hc]) hc j hj (hts _ hw) (fun _ h => h) hfin hpd rfl rfl (by simpa using hj) (ztok_at hok hd) (fun H1 locs1 hP1 hD1 hV1 => ?_)
  rw [zW_set (I' := zu I o j v) (R' := R) ho (by
    rw [zcell_o hk hc]
    refine congrArg (fun z => (Sum.inr (ci, z) : va_E)) (zfs_set (by rw [hfr]; show Value.int _ = Value.int _; unfold zu; rw [if_pos ⟨rfl, rfl⟩]) (fun k9 hk9 => ?_))
    show (if zfr ci k9 = true then _ else Value.int (Int32.ofInt (zu I o j v o k9))) = _
    rw [show zu I o j v o k9 = I o k9 from if_neg (fun q9 => hk9 (by have := q9.2; omega))]) (fun _ h => zu_ne h) (fun _ _ => rfl)] at hP1
  exact kk p e s m args below meth c H1 locs1 lsA F hZ ⟨hP1, zu_canon hS.2 hv⟩ hV1 hL
theorem wp_iaload {a len : Nat} {i : Int} (hd : mi.2.2.2.2[t]? = some (pc, .iaload, 1)) (ha : a < n) (hk : zlay a = (20, len)) (h0 : 0 ≤ i) (h1 : i < len) (hl : len < 2147483648) (kk : WP G mi d mc ms k q (pc + 1) ls (.inl (I a i) :: st) n I R Q) : WP G mi d mc ms k q pc ls (.inl i :: zR a :: st) n I R Q := by
  intro p e s m args below meth c H locs lsA F hZ hS hV hL
  obtain ⟨hx, hb, hml, hown, hts, hr, hlk, hnm, hK, hok⟩ := id F
  have h := kk p e s m args below meth c H locs lsA F hZ hS hV hL
  refine va_iald hx hb hK.1 hS.1 a 0 (by rw [zW_get ha, zcell_a hk]) rfl (zvp_in h0 h1 hl) (ztok_at hok hd) ?_
  show W p G.1 e (zrm d mc ms) s m args below meth c H locs k q _ (F0 m (pc + 1) lsA (.int (Int32.ofInt (I a ((Int32.ofInt i).toNatClampNeg : Nat))) :: st.map (zc G.2.1)))
  rw [z32_nat h0 (by omega), Int.toNat_of_nonneg h0]
  exact h
theorem wp_iastore {a len : Nat} {i v : Int} (hd : mi.2.2.2.2[t]? = some (pc, .iastore, 1)) (ha : a < n) (hk : zlay a = (20, len)) (h0 : 0 ≤ i) (h1 : i < len) (hl : len < 2147483648) (hv : zin v) (kk : WP G mi d mc ms k q (pc + 1) ls st n (zu I a i v) R Q) : WP G mi d mc ms k q pc ls (.inl v :: .inl i :: zR a :: st) n I R Q := by
  intro p e s m args below meth c H locs lsA F hZ hS hV hL
  obtain ⟨hx, hb, hml, hown, hts, hr, hlk, hnm, hK, hok⟩ := id F
  refine va_iast hx hb hK.1 hS.1 zW_D hV a 0 (by rw [zW_get ha, zcell_a hk]) rfl (zvp_in h0 h1 hl) (ztok_at hok hd) (fun H1 locs1 hP1 hD1 hV1 => ?_)
  rw [zW_set (I' := zu I a i v) (R' := R) ha (by
    rw [zcell_a hk]
    refine congrArg (fun z => (Sum.inl (G.2.2.2.1, len, Sum.inl z) : va_E)) (funext fun j => ?_)
    rw [z32_nat h0 (by omega)]
    unfold upd zu
    by_cases hj : j = i.toNat
    · rw [if_pos hj, if_pos ⟨rfl, by omega⟩]
    · rw [if_neg hj, if_neg (fun q9 => hj (by have := q9.2; omega))]) (fun _ h => zu_ne h) (fun _ _ => rfl)] at hP1
  exact kk p e s m args below meth c H1 locs1 lsA F hZ ⟨hP1, zu_canon hS.2 hv⟩ hV1 hL
theorem wp_alen {a g len : Nat} {v : Int} (hd : mi.2.2.2.2[t]? = some (pc, .arraylength, 1)) (ha : a < n) (hg : g = 20 ∨ g = 21) (hk : zlay a = (g, len)) (hv : (len : Int) = v) (kk : WP G mi d mc ms k q (pc + 1) ls (.inl v :: st) n I R Q) : WP G mi d mc ms k q pc ls (zR a :: st) n I R Q := by
  intro p e s m args below meth c H locs lsA F hZ hS hV hL
  obtain ⟨hx, hb, hml, hown, hts, hr, hlk, hnm, hK, hok⟩ := id F
  subst hv
  have h := kk p e s m args below meth c H locs lsA F hZ hS hV hL
  rcases hg with rfl | rfl
  · exact va_alen (v := Int32.ofInt len) hx hb hK.1 hS.1 a 0 (by rw [zW_get ha, zcell_a hk]) rfl (Int32.ofInt_eq_ofNat).symm (ztok_at hok hd) h
  · exact va_alen (v := Int32.ofInt len) hx hb hK.1 hS.1 a 1 (by rw [zW_get ha, zcell_A hk]) rfl (Int32.ofInt_eq_ofNat).symm (ztok_at hok hd) h
theorem wp_aaload {a len r : Nat} {i : Int} (hd : mi.2.2.2.2[t]? = some (pc, .aaload, 1)) (ha : a < n) (hk : zlay a = (21, len)) (h0 : 0 ≤ i) (h1 : i < len) (hl : len < 2147483648) (hR : R a i = some r) (kk : WP G mi d mc ms k q (pc + 1) ls (zR r :: st) n I R Q) : WP G mi d mc ms k q pc ls (.inl i :: zR a :: st) n I R Q := by
  intro p e s m args below meth c H locs lsA F hZ hS hV hL
  obtain ⟨hx, hb, hml, hown, hts, hr, hlk, hnm, hK, hok⟩ := id F
  have h := kk p e s m args below meth c H locs lsA F hZ hS hV hL
  have hin := zvp_in h0 h1 hl
  have hlt : (Int32.ofInt i).toNatClampNeg < len := Nat.not_le.mp fun q => hin (Or.inr q)
  have he : (zW G.2.1 G.2.2.2.1 G.2.2.2.2 n I R)[a]? = some (G.2.1 + a, .inl (G.2.2.2.2, len, .inr (.inr (.inr (.inr (fun j : Nat => (R a j).map (G.2.1 + ·))))))) := by rw [zW_get ha, zcell_A hk]
  refine W.aald (v := .ref (G.2.1 + r)) (ty := .array .int) hx hb (hS.1 a _ he) ((hK.1.2 1 _ rfl).1 len (fun j : Nat => va_rf ((R a j).map (G.2.1 + ·)))) rfl (fun q => by cases q) (by show ¬ (_ ∨ (arrV _ _ _).slots.size ≤ _); rw [arrV_size]; exact hin) ?_ rfl rfl (ztok_at hok hd) h
  show (arrV _ _ _).slots[_]? = _
  rw [arrV_read _ _ hlt]
  show some (va_rf ((R a ((Int32.ofInt i).toNatClampNeg : Nat)).map (G.2.1 + ·))) = _
  rw [z32_nat h0 (by omega), Int.toNat_of_nonneg h0, hR]
  rfl
-- calls
theorem W_sized {p : Program} {l : Launch} {e : Env} {Rm : Room} {s : State} {m : MethodId} {args : Array Value} {below : List Frame} {meth : Method} {c : Code} {H : Heap} {locs : List Loc} {cells slots : Nat} {Q : State → Prop} {g : JFrame} (kk : H.size ≤ s.heap.size + cells → W p l e Rm s m args below meth c H locs cells slots Q g) : W p l e Rm s m args below meth c H locs cells slots Q g := by
  intro T hT X
  have h1 : T.heap.size ≤ s.heap.size + cells := X.same.2.2.1
  exact kk (by rw [← hT]; exact h1) T hT X
theorem zsize {G : zG} {n k : Nat} {I : zMem} {R : zRef} {s : State} {H : Heap} {locs : List Loc} (hZ : s.heap.size + k = G.2.1 + n ∧ k ≤ n) (hS : zSt G n I R H) (hV : va_S (fun a => G.2.1 ≤ a) s.heap H locs) (h : H.size ≤ s.heap.size + k) : H.size = G.2.1 + n := by
  by_cases hn : n = 0
  · subst hn
    have := hV.1
    omega
  · have h1 : n - 1 < n := by omega
    have := (hS.1 (n - 1) _ (zW_get h1)).lt
    have h2 : G.2.1 + (n - 1) < H.size := this
    omega
theorem zgood {w : Cond} (h : w ∈ wsL_law) : w ∈ wsL_law ∧ ((w.onTables && w.keeps) = true ∨ ∃ ty, w = .arrayClass ty) := ⟨h, good_of_word (List.all_eq_true.mp wsL_law_g w h)⟩
def zLk (own : String) (x : Nat) (m2 : zM) (na : Nat) : Prop := Cond.methodLink own x m2.1 ∈ wsL_law ∧ Cond.instanceMethod m2.1 ∈ wsL_law ∧ Cond.selects m2.1.cls m2.1 m2.1 ∈ wsL_law ∧ Cond.initialized m2.1.cls ∈ wsL_law ∧ Cond.code m2.1 m2.2.1 m2.2.2.1 m2.2.2.2.1 ∈ wsL_law ∧ m2.1.cls ≠ "java/lang/invoke/MethodHandle" ∧ m2.1.cls ≠ "java/lang/invoke/VarHandle" ∧ (parseMethodDescriptor m2.1.desc).map (fun d => d.parameters.length) = some na ∧ m2.2.2.1 ≤ 41
def zLs (own : String) (x : Nat) (m2 : zM) (na : Nat) : Prop := Cond.methodLink own x m2.1 ∈ wsL_law ∧ Cond.static m2.1 ∈ wsL_law ∧ Cond.initialized own ∈ wsL_law ∧ Cond.code m2.1 m2.2.1 m2.2.2.1 m2.2.2.2.1 ∈ wsL_law ∧ m2.1.cls = own ∧ m2.1.cls ≠ "java/lang/invoke/MethodHandle" ∧ m2.1.cls ≠ "java/lang/invoke/VarHandle" ∧ (parseMethodDescriptor m2.1.desc).map (fun d => d.parameters.length) = some na ∧ m2.2.2.1 ≤ 41
theorem zcats {B : Nat} : ∀ (r : List zV), ((r.map (zc B)).map fun v => v.category).sum ≤ 2 * r.length := by
  intro r
  induction r with
  | nil => exact Nat.le_refl _
  | cons a r ih =>
    rw [List.map_cons, List.map_cons, List.sum_cons, List.length_cons]
    have := lv_cat (zc B a)
    omega
/-- behind a call -/
theorem zback {m2 : zM} {mc2 ms2 x na : Nat} {rest : List zV} {av : List zV} {Q2 : zPo} {p : Program} {e : Env} {s : State} {m : MethodId} {args : Array Value} {below : List Frame} {meth : Method} {c : Code} {H : Heap} {locs : List Loc} {lsA : Array Slot} {g : JFrame}
    (F : zFix G mi p s m args meth c) (hZ : s.heap.size + k = G.2.1 + n ∧ k ≤ n) (hV : va_S (fun a => G.2.1 ≤ a) s.heap H locs) (hL : zLo G.2.1 mi.2.2.1 ls lsA) (hcs : k + mc2 ≤ mc) {a : Array Value}
    (hr : va_Run p G.1 e (zrm d mc ms) s m args below meth c H locs k q mc2 ms2 (F0 m pc lsA (st.map (zc G.2.1))) (rest.map (zc G.2.1)) (zQ G (n + mc2) Q2 a) (fun a => G.2.1 ≤ a))
    (kk : ∀ r I' R', Q2 r I' R' → WP G mi d mc ms (k + mc2) (q + ms2) (pc + 3) ls (r.toList.map .inl ++ rest) (n + mc2) I' R' Q) :
    W p G.1 e (zrm d mc ms) s m args below meth c H locs k q (MQ below (zQ G (n + (mc - k)) Q) args s mc ms (fun a => G.2.1 ≤ a)) (F0 m pc lsA (st.map (zc G.2.1))) := by
  intro T hT X
  obtain ⟨v, st₀, t, T', L, h0, X', hL2, e1, e2, ⟨⟨r, I', R', hv, hS', hK', hq⟩, hz, hkp⟩, stp⟩ := hr T hT X
  have hv : v = r.map (fun x => .int (Int32.ofInt x)) := by cases hv; rfl
  subst hv
  rw [h0] at hz hkp
  have hn : n + mc2 + (mc - (k + mc2)) = n + (mc - k) := by omega
  have h := kk r I' R' hq p e s m args below meth c T'.heap (locs ++ L) lsA F ⟨by omega, by omega⟩ (by rw [e1]; exact hS') ⟨Nat.le_trans hV.1 (by rw [e1]; exact hz), fun q h1 h2 => by rw [e1, hkp q (Nat.lt_of_lt_of_le h1 hV.1) h2]; exact hV.2.1 q h1 h2, fun q hq => by
      rcases List.mem_append.mp hq with h | h
      · exact hV.2.2 q h
      · exact hL2 q h⟩ hL
  rw [hn] at h
  obtain ⟨t2, a1, b1⟩ := h T' rfl X'
  refine ⟨t2, stp t2 ?_, b1⟩
  have he : ((r.toList.map (Sum.inl : Int → zV) ++ rest).map (zc G.2.1)) = (r.map (fun x => Value.int (Int32.ofInt x))).toList ++ rest.map (zc G.2.1) := by
    rw [List.map_append]
    cases r <;> rfl
  rw [he] at a1
  exact a1
theorem zpre_blind {av : List zV} : FrameBlind (va_Pc (av.map (zc G.2.1)) (fun U => U.heap.size = G.2.1 + n ∧ zSt G n I R U.heap ∧ zKn G U)) := fun a U g mk h => by
  obtain ⟨h0, h1, h2, h3⟩ := h
  exact ⟨h0, h1, h2, zKn.moved (u := U) (U := U.calling g mk a) h3 (State.WarmedH.refl U) (fun _ _ _ => rfl)⟩
theorem wp_callV {x o na mc2 ms2 ci : Nat} {m2 : zM} {As rest : List zV} {Q2 : zPo} (hd : mi.2.2.2.2[t]? = some (pc, .invokevirtual x, 3)) (hl : zLk mi.1.cls x m2 na) (hn : As.length = na) (hst : st = As.reverse ++ zR o :: rest) (ho : o < n) (hk : (zlay o).1 = ci) (hci : ∃ T N, vwCl[ci]? = some (m2.1.cls, T, N)) (hr : rest.length ≤ 4) (hcs : k + mc2 ≤ mc ∧ q + ms2 ≤ ms)
    (hM : MT G m2 d mc2 ms2 (zR o :: As) n I R Q2) (kk : ∀ r I' R', Q2 r I' R' → WP G mi (d + 1) mc ms (k + mc2) (q + ms2) (pc + 3) ls (r.toList.map .inl ++ rest) (n + mc2) I' R' Q) : WP G mi (d + 1) mc ms k q pc ls st n I R Q := by
  intro p e s m args below meth c H locs lsA F hZ hS hV hL
  obtain ⟨hx, hb, hml, hown, hts, hr2, hlk, hnm, hK, hok⟩ := id F
  obtain ⟨l1, l2, l3, l4, l5, l6, l7, l8, l9⟩ := hl
  obtain ⟨T, N, hc⟩ := hci
  refine W_sized (fun hsz => ?_)
  have hsz := zsize hZ hS hV hsz
  have hG : GoodIn wsL_law (wsV mi.1.cls x m2.1.cls m2.1 (zws m2)) := by
    intro w hw
    unfold wsV zws at hw
    simp only [List.mem_append, List.mem_cons, List.not_mem_nil, or_false] at hw
    rcases hw with (rfl | rfl | rfl | rfl) | rfl | hw
    · exact zgood l1
    · exact zgood l2
    · exact zgood l3
    · exact zgood l4
    · exact zgood l5
    · exact zgood hw
  refine zback (m2 := m2) (x := x) (na := na) (av := []) (g := F0 m pc lsA []) F hZ hV hL hcs.1 (va_runV (As := As.map (zc G.2.1)) (b := G.2.1 + o) (n := na) (rm := zrm d mc2 ms2) ⟨hx, hb, hml, hown, hts⟩ hM (cwV na hts hG rfl rfl rfl ⟨rfl, l6, l7, l8⟩ ⟨Nat.le_refl _, by show 8 + (m2.2.2.1 + 11) + 60 * d ≤ 60 * (d + 1); omega⟩) ⟨zpre_blind, ?_, fun U hU hW => ⟨rfl, by rw [hU]; exact hsz, by rw [hU]; exact hS, hK.moved hW (by rw [hU]; exact hV.2.1)⟩⟩ rfl (by rw [List.length_map]; exact hn) (hL.1) ?_ (lv_room (Nat.le_trans (zcats rest) (by omega))) (ztok_at hok hd) hcs) kk
  · exact va_recv hK.1 hS.1 (ci := ci) (q0 := o) hc (by rw [zW_get ho, zcell_o hk hc])
  · show st.map (zc G.2.1) = _
    rw [hst, List.map_append, List.map_reverse]
    rfl
theorem wp_callS {x na mc2 ms2 : Nat} {m2 : zM} {As rest : List zV} {Q2 : zPo} (hd : mi.2.2.2.2[t]? = some (pc, .invokestatic x, 3)) (hl : zLs mi.1.cls x m2 na) (hn : As.length = na) (hst : st = As.reverse ++ rest) (hr : rest.length ≤ 4) (hcs : k + mc2 ≤ mc ∧ q + ms2 ≤ ms)
    (hM : MT G m2 d mc2 ms2 As n I R Q2) (kk : ∀ r I' R', Q2 r I' R' → WP G mi (d + 1) mc ms (k + mc2) (q + ms2) (pc + 3) ls (r.toList.map .inl ++ rest) (n + mc2) I' R' Q) : WP G mi (d + 1) mc ms k q pc ls st n I R Q := by
  intro p e s m args below meth c H locs lsA F hZ hS hV hL
  obtain ⟨hx, hb, hml, hown, hts, hr2, hlk, hnm, hK, hok⟩ := id F
  obtain ⟨l1, l2, l4, l5, l3, l6, l7, l8, l9⟩ := hl
  refine W_sized (fun hsz => ?_)
  have hsz := zsize hZ hS hV hsz
  have hG : GoodIn wsL_law (wsS mi.1.cls x m2.1 (zws m2)) := by
    intro w hw
    unfold wsS zws at hw
    simp only [List.mem_append, List.mem_cons, List.not_mem_nil, or_false] at hw
    rcases hw with (rfl | rfl | rfl) | rfl | hw
    · exact zgood l1
    · exact zgood l2
    · exact zgood l4
    · exact zgood l5
    · exact zgood hw
  refine zback (m2 := m2) (x := x) (na := na) (av := []) (g := F0 m pc lsA []) F hZ hV hL hcs.1 (va_runS (As := As.map (zc G.2.1)) (n := na) (rm := zrm d mc2 ms2) ⟨hx, hb, hml, hown, hts⟩ hM (cwS na hts hG rfl rfl rfl ⟨l3, l6, l7, l8⟩ ⟨Nat.le_refl _, by show 8 + (m2.2.2.1 + 11) + 60 * d ≤ 60 * (d + 1); omega⟩) ⟨zpre_blind, fun U hU hW => ⟨rfl, by rw [hU]; exact hsz, by rw [hU]; exact hS, hK.moved hW (by rw [hU]; exact hV.2.1)⟩⟩ rfl (by rw [List.length_map]; exact hn) (hL.1) ?_ (lv_room (Nat.le_trans (zcats rest) (by omega))) (ztok_at hok hd) hcs) kk
  show st.map (zc G.2.1) = _
  rw [hst, List.map_append, List.map_reverse]
-- Math.max, Math.min, System.arraycopy
def zLm (own : String) (x : Nat) (y : MethodName) : Prop := Cond.methodLink own x y ∈ wsL_law
theorem wp_max {x : Nat} {u v : Int} (hd : mi.2.2.2.2[t]? = some (pc, .invokestatic x, 3)) (hl : Cond.methodLink mi.1.cls x Lib.Math.max.name ∈ wsL_law) (hu : zin u) (hv : zin v) (hr : st.length ≤ 4) (hcs : k ≤ mc ∧ q ≤ ms) (kk : WP G mi (d + 1) mc ms k q (pc + 3) ls (.inl (max u v) :: st) n I R Q) : WP G mi (d + 1) mc ms k q pc ls (.inl v :: .inl u :: st) n I R Q := by
  intro p e s m args below meth c H locs lsA F hZ hS hV hL
  obtain ⟨hx, hb, hml, hown, hts, hr2, hlk, hnm, hK, hok⟩ := id F
  have h := kk p e s m args below meth c H locs lsA F hZ hS hV hL
  refine va_mmax hx hb (hml.trans hL.1.symm) hown (hts _ hl) (hts _ zmaxS) (hts _ zmathI) (hts _ zmaxC) (Nat.le_add_left 1 d) ?_ hcs.1 hcs.2 (ztok_at hok hd) ?_
  · have := zcats (B := G.2.1) st
    show _ + 13 ≤ 60 * (d + 1)
    omega
  · rw [show (if Int32.ofInt u < Int32.ofInt v then Int32.ofInt v else Int32.ofInt u) = Int32.ofInt (max u v) by
      by_cases hc : u < v
      · rw [if_pos ((z32_lt hu hv).mpr hc), show max u v = v by omega]
      · rw [if_neg (fun h => hc ((z32_lt hu hv).mp h)), show max u v = u by omega]]
    exact h
theorem wp_min {x : Nat} {u v : Int} (hd : mi.2.2.2.2[t]? = some (pc, .invokestatic x, 3)) (hl : Cond.methodLink mi.1.cls x Lib.Math.min.name ∈ wsL_law) (hu : zin u) (hv : zin v) (hr : st.length ≤ 4) (hcs : k ≤ mc ∧ q ≤ ms) (kk : WP G mi (d + 1) mc ms k q (pc + 3) ls (.inl (min u v) :: st) n I R Q) : WP G mi (d + 1) mc ms k q pc ls (.inl v :: .inl u :: st) n I R Q := by
  intro p e s m args below meth c H locs lsA F hZ hS hV hL
  obtain ⟨hx, hb, hml, hown, hts, hr2, hlk, hnm, hK, hok⟩ := id F
  have h := kk p e s m args below meth c H locs lsA F hZ hS hV hL
  refine va_mmin hx hb (hml.trans hL.1.symm) hown (hts _ hl) (hts _ zminS) (hts _ zmathI) (hts _ zminC) (Nat.le_add_left 1 d) ?_ hcs.1 hcs.2 (ztok_at hok hd) ?_
  · have := zcats (B := G.2.1) st
    show _ + 13 ≤ 60 * (d + 1)
    omega
  · rw [show (if Int32.ofInt v < Int32.ofInt u then Int32.ofInt v else Int32.ofInt u) = Int32.ofInt (min u v) by
      by_cases hc : v < u
      · rw [if_pos ((z32_lt hv hu).mpr hc), show min u v = v by omega]
      · rw [if_neg (fun h => hc ((z32_lt hv hu).mp h)), show min u v = u by omega]]
    exact h
/-- n ints of a from sp on, put into b from dp on -/
def zcp (I : zMem) (a : Nat) (sp : Int) (b : Nat) (dp m : Int) : zMem := fun c j => if c = b ∧ dp ≤ j ∧ j < dp + m then I a (sp + (j - dp)) else I c j
theorem wp_copy {x a b la lb : Nat} {sp dp m : Int} (hd : mi.2.2.2.2[t]? = some (pc, .invokestatic x, 3)) (hl : Cond.methodLink mi.1.cls x arraycopyName ∈ wsL_law) (ha : a < n) (hka : zlay a = (20, la)) (hb9 : b < n) (hkb : zlay b = (20, lb)) (hs0 : 0 ≤ sp) (hd0 : 0 ≤ dp) (hm0 : 0 ≤ m) (hs1 : sp + m ≤ la) (hd1 : dp + m ≤ lb) (hla : la < 2147483648) (hlb : lb < 2147483648) (hr : st.length ≤ 4) (kk : WP G mi (d + 1) mc ms k q (pc + 3) ls st n (zcp I a sp b dp m) R Q) : WP G mi (d + 1) mc ms k q pc ls (.inl m :: .inl dp :: zR b :: .inl sp :: zR a :: st) n I R Q := by
  intro p e s mm args below meth c H locs lsA F hZ hS hV hL
  obtain ⟨hx, hb, hml, hown, hts, hr2, hlk, hnm, hK, hok⟩ := id F
  have es := z32_nat hs0 (by omega)
  have ed := z32_nat hd0 (by omega)
  have em := z32_nat hm0 (by omega)
  have nz : ∀ z : Int, 0 ≤ z → z < 2147483648 → ¬ Int32.ofInt z < 0 := fun z h0 h1 h => by
    have := (z32_lt0 (by unfold zin; omega)).mp h
    omega
  refine va_copyi hx hb (hml.trans hL.1.symm) hown (hts _ hl) (hts _ zcopyN) (hts _ zcopyS) (hts _ zcopyI) hK.1 hS.1 zW_D hV a b 0 0 (by rw [zW_get ha, zcell_a hka]) (by rw [zW_get hb9, zcell_a hkb]) rfl rfl rfl (nz sp hs0 (by omega)) (nz dp hd0 (by omega)) (nz m hm0 (by omega)) (by rw [es, em]; omega) (by rw [ed, em]; omega) (fun _ _ => rfl) (Nat.le_add_left 1 d) ?_ (ztok_at hok hd) (fun H1 locs1 hP1 hD1 hV1 => ?_)
  · have := zcats (B := G.2.1) st
    have e9 : nativeFrameWords "java/lang/System" "arraycopy" 5 + 11 ≤ 40 := by decide
    show _ + _ ≤ 60 * (d + 1)
    omega
  rw [zW_set (I' := zcp I a sp b dp m) (R' := R) hb9 (by
    rw [zcell_a hkb]
    refine congrArg (fun z => (Sum.inl (G.2.2.2.1, lb, Sum.inl z) : va_E)) (funext fun j => ?_)
    rw [es, ed, em]
    unfold va_cpy zcp
    by_cases hj : dp.toNat ≤ j ∧ j < dp.toNat + m.toNat
    · rw [if_pos hj, if_pos ⟨rfl, by omega, by omega⟩]
      show Int32.ofInt (I a ((sp.toNat + (j - dp.toNat) : Nat) : Int)) = _
      rw [show ((sp.toNat + (j - dp.toNat) : Nat) : Int) = sp + ((j : Int) - dp) by omega]
    · rw [if_neg hj, if_neg (fun q9 => hj ⟨by omega, by omega⟩)]) (fun _ h => by
      funext j
      unfold zcp
      rw [if_neg (fun q9 => h q9.1)]) (fun _ _ => rfl)] at hP1
  exact kk p e s mm args below meth c H1 locs1 lsA F hZ ⟨hP1, fun c9 j => by
    unfold zcp
    split
    · exact hS.2 _ _
    · exact hS.2 _ _⟩ hV1 hL
end ZM
