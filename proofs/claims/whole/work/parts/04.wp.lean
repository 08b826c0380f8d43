theorem zAOA_moved {ty : FieldType} {u U : State} (hvm : u.vm.Alike U.vm) (h : va_AOA ty u) : va_AOA ty U := by
  show (Cond.arrayOver (.array ty)).before #[] (u.setVm U.vm) = true
  rw [Cond.arrayOver_setVmC hvm]
  exact h
/-! A layer of mine over the kit's W: ids for cells, Ints for ints, one fixed layout of the world; a rule an instruction. -/
-- a value: an int, a long, a reference (an id of the layout, or null)
abbrev zV : Type := Int ⊕ (Int ⊕ Option Nat)
abbrev zI (x : Int) : zV := .inl x
abbrev zJ (x : Int) : zV := .inr (.inl x)
abbrev zR (r : Nat) : zV := .inr (.inr (some r))
abbrev zN : zV := .inr (.inr none)
def zc (B : Nat) : zV → Value
  | .inl x => .int (Int32.ofInt x)
  | .inr (.inl x) => .long (Int64.ofInt x)
  | .inr (.inr none) => .null
  | .inr (.inr (some r)) => .ref (B + r)
def zin (x : Int) : Prop := -2147483648 ≤ x ∧ x < 2147483648
def zinL (x : Int) : Prop := -9223372036854775808 ≤ x ∧ x < 9223372036854775808
abbrev zMem : Type := Nat → Int → Int
abbrev zRef : Type := Nat → Int → Option Nat
/-- one place of the memory changed -/
def zu (I : zMem) (a : Nat) (i v : Int) : zMem := fun b j => if b = a ∧ j = i then v else I b j
def zur (R : zRef) (a : Nat) (i : Int) (v : Option Nat) : zRef := fun b j => if b = a ∧ j = i then v else R b j
-- the layout: of each id its kind (a class of vwCl; 20 an int array, 21 an array of int arrays) and, of an array, its length
def zlayL : List (Nat × Nat) := [(9, 0), (8, 0), (20, 200), (4, 0), (2, 0), (20, 6), (20, 6), (20, 6), (20, 6), (21, 6), (20, 6), (20, 6), (20, 6), (20, 6), (20, 6), (20, 6), (20, 8), (20, 8), (21, 6), (20, 9), (20, 9), (20, 9), (20, 9), (20, 9), (20, 9), (21, 6), (20, 54), (20, 54), (20, 54), (20, 54), (20, 54), (20, 54), (20, 8), (20, 6), (2, 0), (20, 6), (20, 6), (20, 6), (20, 6), (21, 6), (20, 6), (20, 6), (20, 6), (20, 6), (20, 6), (20, 6), (20, 8), (20, 8), (21, 6), (20, 9), (20, 9), (20, 9), (20, 9), (20, 9), (20, 9), (21, 6), (20, 54), (20, 54), (20, 54), (20, 54), (20, 54), (20, 54), (20, 8), (20, 6), (3, 0), (20, 6), (20, 6), (20, 6), (20, 6), (20, 6), (0, 0), (20, 6), (5, 0), (20, 6), (21, 9), (20, 6), (20, 6), (20, 6), (20, 6), (20, 6), (20, 6), (20, 6), (20, 6), (20, 6), (20, 9), (20, 9), (3, 0), (20, 6), (20, 6), (20, 6), (20, 6), (20, 6), (0, 0), (20, 6), (20, 24), (6, 0), (21, 8), (20, 24), (20, 24), (20, 24), (20, 24), (20, 24), (20, 24), (20, 24), (20, 24), (6, 0), (21, 2), (20, 24), (20, 24), (1, 0), (20, 4), (7, 0), (20, 6), (20, 6), (20, 6), (10, 0), (20, 6), (20, 6), (20, 6), (20, 36), (20, 8), (20, 8), (20, 18), (20, 144), (20, 18), (20, 36), (20, 4), (20, 200), (20, 6), (20, 6), (20, 6), (20, 6), (20, 36), (20, 8), (20, 8), (20, 8), (20, 6), (20, 54), (20, 18), (20, 18), (20, 6), (20, 6), (20, 6)]
def zlay (k : Nat) : Nat × Nat := zlayL.getD k (99, 0)
-- which fields are references
def zfrL : List (List Nat) := [[0, 1], [0], [4, 5, 6, 7, 8, 9, 10, 11, 12, 13, 14], [0, 1, 2, 3, 4, 5], [0], [0, 1, 2, 3, 4, 5, 6], [0], [0, 1, 2, 3], [0], [0, 1, 2, 3, 4, 5, 6, 7, 8, 9, 10, 11], [4, 5, 6, 7, 8, 9, 10, 11, 13, 15, 17, 19, 27, 28, 29, 30, 31, 32, 33, 34, 35, 36, 39, 40, 41, 42, 43]]
def zfr (c j : Nat) : Bool := (zfrL.getD c []).contains j
def zfn (c : Nat) : Nat := (vwCl.getD c ("", TX0, 0)).2.2
def zcell (B cI cJ : Nat) (g : Nat × Nat) (f : Int → Int) (r : Int → Option Nat) : va_E :=
  if g.1 = 20 then .inl (cI, g.2, .inl (fun j => Int32.ofInt (f j)))
  else if g.1 = 21 then .inl (cJ, g.2, .inr (.inr (.inr (.inr (fun j => (r j).map (B + ·))))))
  else .inr (g.1, (List.range (zfn g.1)).map (fun j => if zfr g.1 j then va_rf ((r j).map (B + ·)) else .int (Int32.ofInt (f j))))
def zW (B cI cJ n : Nat) (I : zMem) (R : zRef) : va_W := (List.range n).map (fun k => (B + k, zcell B cI cJ (zlay k) (I k) (R k)))
theorem zW_get {B cI cJ n : Nat} {I : zMem} {R : zRef} {o : Nat} (h : o < n) : (zW B cI cJ n I R)[o]? = some (B + o, zcell B cI cJ (zlay o) (I o) (R o)) := by
  unfold zW
  rw [List.getElem?_map, List.getElem?_range h]
  rfl
theorem zW_set {B cI cJ n : Nat} {I I' : zMem} {R R' : zRef} {o : Nat} {e : va_E} (h : o < n) (he : e = zcell B cI cJ (zlay o) (I' o) (R' o)) (hI : ∀ k, k ≠ o → I' k = I k) (hR : ∀ k, k ≠ o → R' k = R k) :
    (zW B cI cJ n I R).set o (B + o, e) = zW B cI cJ n I' R' := by
  apply List.ext_getElem?
  intro k
  rw [List.getElem?_set]
  by_cases hk : o = k
  · subst hk
    rw [if_pos rfl, zW_get h, he, if_pos (by unfold zW; simpa using h)]
  · rw [if_neg hk]
    by_cases hn : k < n
    · rw [zW_get hn, zW_get hn, hI k (fun q => hk q.symm), hR k (fun q => hk q.symm)]
    · rw [List.getElem?_eq_none (by unfold zW; simpa using hn), List.getElem?_eq_none (by unfold zW; simpa using hn)]
theorem zW_push {B cI cJ n : Nat} {I : zMem} {R : zRef} : zW B cI cJ (n + 1) I R = zW B cI cJ n I R ++ [(B + n, zcell B cI cJ (zlay n) (I n) (R n))] := by
  unfold zW
  rw [List.range_succ, List.map_append]
  rfl
theorem zW_D {B cI cJ n : Nat} {I : zMem} {R : zRef} : va_D (fun a => B ≤ a) (zW B cI cJ n I R) := by
  refine ⟨fun i j p q hi hj hpq => ?_, fun k q hk => ?_⟩
  · have h1 : i < n := by
      have := (List.getElem?_eq_some_iff.mp hi).1
      unfold zW at this
      simpa using this
    have h2 : j < n := by
      have := (List.getElem?_eq_some_iff.mp hj).1
      unfold zW at this
      simpa using this
    rw [zW_get h1] at hi
    rw [zW_get h2] at hj
    cases hi
    cases hj
    simpa using hpq
  · have h1 : k < n := by
      have := (List.getElem?_eq_some_iff.mp hk).1
      unfold zW at this
      simpa using this
    rw [zW_get h1] at hk
    cases hk
    exact Nat.le_add_right _ _
-- the fixed things: the launch, where the world begins, the classes' numbers, the classes of int[] and int[][]
abbrev zG : Type := Launch × Nat × va_G × ClassId × ClassId
-- a method: its name, bytes, locals, what it returns, its decoded rows
abbrev zM : Type := MethodName × ByteArray × Nat × Option FieldType × zT
def zrm (d mc ms : Nat) : Room := { frames := d, cells := mc, slots := ms, locals := 60 * d }
def zws (mi : zM) : List Cond := .code mi.1 mi.2.1 mi.2.2.1 mi.2.2.2.1 :: wsL_law
-- the text that the class begins with, a constant of the class file; what String asks of the JDK's statics
def zTxt : String := "w4;m20;c0,5,6,9433;c1,4,9,72;c2,9,4,5551;c3,8,11,8643;c0,12,5,31;b0,3;b1,4;"
def zBy : List Int32 := [119, 52, 59, 109, 50, 48, 59, 99, 48, 44, 53, 44, 54, 44, 57, 52, 51, 51, 59, 99, 49, 44, 52, 44, 57, 44, 55, 50, 59, 99, 50, 44, 57, 44, 52, 44, 53, 53, 53, 49, 59, 99, 51, 44, 56, 44, 49, 49, 44, 56, 54, 52, 51, 59, 99, 48, 44, 49, 50, 44, 53, 44, 51, 49, 59, 98, 48, 44, 51, 59, 98, 49, 44, 52, 59]
def zNest : List (Nat × MethodName) := [(11, yX8_init), (27, yX2_init), (76, yX1_init)]
def zStr (B : Nat) (s : State) : Prop := (∀ q ∈ zNest, va_Nw (.methodLinkNest RX9 q.1 q.2 RX9) s) ∧ ∃ adK adV : Nat, vk_R "CoreTests" 88 zTxt adK s ∧ vk_S 1 [75] [zBy] (fun _ => adK) (fun _ => adV) (fun a => B ≤ a) s s.heap ∧ va_Z "java/lang/String" "COMPACT_STRINGS" "Z" (.int 1) (fun a => B ≤ a) s s.heap ∧ ∃ w : Value, w.category = 1 ∧ va_Z "jdk/internal/util/Preconditions" "SIOOBE_FORMATTER" "Ljava/util/function/BiFunction;" w (fun a => B ≤ a) s s.heap
theorem zStr.moved {B : Nat} {u U : State} (h : zStr B u) (hW : u.WarmedH U.vm) (hq : ∀ a : Nat, a < u.heap.size → ¬ B ≤ a → U.heap[a]? = u.heap[a]?) : zStr B U := by
  obtain ⟨h0, adK, adV, h1, h2, h3, w, hw, h4⟩ := h
  exact ⟨fun q hq9 => (h0 q hq9).warmM hW, adK, adV, h1.warm hW, (vk_S.moved hW.alike h2).kept hq, (va_Z.moved hW.alike h3).kept hq, w, hw, (va_Z.moved hW.alike h4).kept hq⟩
def zKn (G : zG) (s : State) : Prop := va_K G.2.2.1 vwCl [(G.2.2.2.1, .int), (G.2.2.2.2, .array .int)] s ∧ va_AOA .int s ∧ zStr G.2.1 s
def zFix (G : zG) (mi : zM) (p : Program) (s : State) (m : MethodId) (args : Array Value) (meth : Method) (c : Code) : Prop :=
  p.tables.exec = Jvm.exec ∧ c.code = mi.2.1 ∧ c.maxLocals = mi.2.2.1 ∧ s.vm.findClass mi.1.cls = some m.cls ∧ (∀ w ∈ wsL_law, w.before args s = true) ∧ meth.sig.returnType = mi.2.2.2.1 ∧ meth.locks = false ∧ meth.name = mi.1.name ∧ zKn G s ∧ ztok mi.2.1 mi.2.2.2.2 = true
def zSt (G : zG) (n : Nat) (I : zMem) (R : zRef) (H : Heap) : Prop := va_P G.2.2.1 vwCl (zW G.2.1 G.2.2.2.1 G.2.2.2.2 n I R) H ∧ ∀ a i, zin (I a i)
def zls (B : Nat) (ls : List (Option zV)) : List (Nat × Value) := (List.range ls.length).filterMap (fun i => (ls.getD i none).map (fun v => (i, zc B v)))
theorem zls_in {B : Nat} {ls : List (Option zV)} {q : Nat × Value} : q ∈ zls B ls ↔ ∃ v, ls[q.1]? = some (some v) ∧ q.2 = zc B v := by
  unfold zls
  rw [List.mem_filterMap]
  constructor
  · rintro ⟨i, hi, h⟩
    rw [List.mem_range] at hi
    rw [List.getD_eq_getElem?_getD, List.getElem?_eq_getElem hi] at h
    cases hv : ls[i] with
    | none => rw [hv] at h; cases h
    | some v =>
      rw [hv] at h
      cases h
      exact ⟨v, by rw [List.getElem?_eq_getElem hi, hv], rfl⟩
  · rintro ⟨v, h, hq⟩
    refine ⟨q.1, List.mem_range.mpr (List.getElem?_eq_some_iff.mp h).1, ?_⟩
    rw [List.getD_eq_getElem?_getD, h]
    show some (q.1, zc B v) = some q
    rw [← hq]
def zLo (B nL : Nat) (ls : List (Option zV)) (lsA : Array Slot) : Prop := lv_has lsA nL (zls B ls)
theorem zLo.at {B nL : Nat} {ls : List (Option zV)} {lsA : Array Slot} (h : zLo B nL ls lsA) {i : Nat} {v : zV} (hi : ls[i]? = some (some v)) : lsA[i]? = some (.val (zc B v)) :=
  h.2.2 (i, zc B v) (zls_in.mpr ⟨v, hi, rfl⟩)
abbrev zPo : Type := Option Int → zMem → zRef → Prop
def zQ (G : zG) (N : Nat) (Q : zPo) : Array Value → State → Outcome → State → Prop := fun _ st o t =>
  (∃ (r : Option Int) (I : zMem) (R : zRef), o = .returned (r.map (fun x => .int (Int32.ofInt x))) ∧ zSt G N I R t.heap ∧ zKn G t ∧ Q r I R) ∧ va_F (fun a => G.2.1 ≤ a) st t
/-- from this place on the method comes to its end with Q: pc, locals, operand stack, cells, ints, references; k cells and q slots are made already (of mc, ms) -/
def WP (G : zG) (mi : zM) (d mc ms k q pc : Nat) (ls : List (Option zV)) (st : List zV) (n : Nat) (I : zMem) (R : zRef) (Q : zPo) : Prop :=
  ∀ (p : Program) (e : Env) (s : State) (m : MethodId) (args : Array Value) (below : List Frame) (meth : Method) (c : Code) (H : Heap) (locs : List Loc) (lsA : Array Slot),
    zFix G mi p s m args meth c → (s.heap.size + k = G.2.1 + n ∧ k ≤ n) → zSt G n I R H → va_S (fun a => G.2.1 ≤ a) s.heap H locs → zLo G.2.1 mi.2.2.1 ls lsA →
    W p G.1 e (zrm d mc ms) s m args below meth c H locs k q (MQ below (zQ G (n + (mc - k)) Q) args s mc ms (fun a => G.2.1 ≤ a)) (F0 m pc lsA (st.map (zc G.2.1)))
/-- a method's contract: with these arguments, in this memory, it returns with Q; it makes mc cells of ms slots -/
def MT (G : zG) (mi : zM) (d mc ms : Nat) (av : List zV) (n : Nat) (I : zMem) (R : zRef) (Q : zPo) : Prop :=
  Met G.1 mi.1 (zws mi) (zrm d mc ms) (va_Pc (av.map (zc G.2.1)) (fun U => U.heap.size = G.2.1 + n ∧ zSt G n I R U.heap ∧ zKn G U)) (zQ G (n + mc) Q) mc ms (fun a => G.2.1 ≤ a)
-- the locals at the entry
def zent : List zV → List (Option zV)
  | [] => []
  | .inl x :: r => some (.inl x) :: zent r
  | .inr (.inl x) :: r => some (.inr (.inl x)) :: none :: zent r
  | .inr (.inr x) :: r => some (.inr (.inr x)) :: zent r
theorem zc_cat1 {B : Nat} {x : Int} : (zc B (.inl x)).category = 1 := rfl
theorem zc_cat2 {B : Nat} {x : Int} : (zc B (.inr (.inl x))).category = 2 := rfl
theorem zc_cat3 {B : Nat} {x : Option Nat} : (zc B (.inr (.inr x))).category = 1 := by cases x <;> rfl
theorem zent_args (B : Nat) : ∀ (av : List zV) (i : Nat) (k : Nat) (v : zV), (zent av)[k]? = some (some v) → (i + k, zc B v) ∈ lv_args i (av.map (zc B)) := by
  intro av
  induction av with
  | nil => intro i k v h; cases h
  | cons a r ih =>
    intro i k v h
    rcases a with x | x | x
    · cases k with
      | zero =>
        cases h
        exact List.mem_cons_self
      | succ k =>
        have := ih (i + 1) k v h
        rw [show i + (k + 1) = i + 1 + k by omega]
        exact List.mem_cons_of_mem _ this
    · cases k with
      | zero =>
        cases h
        exact List.mem_cons_self
      | succ k =>
        cases k with
        | zero => cases h
        | succ k =>
          have := ih (i + 2) k v h
          rw [show i + (k + 1 + 1) = i + 2 + k by omega]
          exact List.mem_cons_of_mem _ this
    · have hc : (zc B (.inr (.inr x))).category = 1 := zc_cat3
      cases k with
      | zero =>
        cases h
        exact List.mem_cons_self
      | succ k =>
        have := ih (i + 1) k v h
        rw [show i + (k + 1) = i + 1 + k by omega]
        refine List.mem_cons_of_mem _ ?_
        show _ ∈ lv_args (if (zc B (.inr (.inr x))).category = 2 then i + 2 else i + 1) _
        rw [hc]
        exact this
theorem zent_len (B : Nat) : ∀ av : List zV, (lg_sl (av.map (zc B))).length = (zent av).length := by
  intro av
  induction av with
  | nil => rfl
  | cons a r ih =>
    have e : ∀ v : Value, ∀ vs : List Value, (lg_sl (v :: vs)).length = (if v.category = 2 then 2 else 1) + (lg_sl vs).length := by
      intro v vs
      unfold lg_sl
      rw [List.flatMap_cons, List.length_append]
      by_cases h : v.category = 2
      · simp [h]
      · simp [h]
    rw [List.map_cons, e, ih]
    rcases a with x | x | x
    · rw [zc_cat1]
      show 1 + _ = (zent r).length + 1
      omega
    · rw [zc_cat2]
      show 2 + _ = (zent r).length + 1 + 1
      omega
    · rw [zc_cat3]
      show 1 + _ = (zent r).length + 1
      omega
theorem MT.of {G : zG} {mi : zM} {d mc ms : Nat} {av : List zV} {n : Nat} {I : zMem} {R : zRef} {Q : zPo} (hy : plainName mi.1.cls = true) (hok : ztok mi.2.1 mi.2.2.2.2 = true) (hn : (zent av).length ≤ mi.2.2.1)
    (h : (∀ a i, zin (I a i)) → WP G mi d mc ms 0 0 0 (zent av ++ List.replicate (mi.2.2.1 - (zent av).length) none) [] n I R Q) : MT G mi d mc ms av n I R Q := by
  refine Met.ofW (cc := mi.2.1) (maxL := mi.2.2.1) (ret := mi.2.2.2.1) hy rfl ?_
  intro p e s m args below meth c s₁ B hml hv
  obtain ⟨rfl, hsz, hst, hK⟩ := hv
  have hx := B.exec
  have hb := B.bytes
  have hr := B.returns
  have hts := atoms_spec (ws := zws mi) B.pre
  have hown : s.vm.findClass mi.1.cls = some m.cls := findClass_of_methodNamed B.named
  have hlocks := B.notSynchronized
  have hnm : meth.name = mi.1.name := (name_of_methodNamed B.named B.method).1
  have hle : (lg_sl (av.map (zc G.2.1))).length ≤ mi.2.2.1 := by rw [zent_len]; exact hn
  have hl := lv_entry (av.map (zc G.2.1)) (n := mi.2.2.1) hle
  rw [lg_entry_eq]
  refine h hst.2 p e s m _ below meth c s.heap [] _ ⟨hx, hb, hml, hown, fun w hw => hts w (List.mem_cons_of_mem _ hw), hr, hlocks, hnm, hK, hok⟩ ⟨hsz, Nat.zero_le _⟩ hst va_S.rf ?_
  refine ⟨hl.1, hl.2.1, fun w hw => ?_⟩
  obtain ⟨v, hv, he⟩ := zls_in.mp hw
  have hz : (zent av)[w.1]? = some (some v) := by
    by_cases hk : w.1 < (zent av).length
    · rwa [List.getElem?_append_left hk] at hv
    · rw [List.getElem?_append_right (by omega)] at hv
      rw [List.getElem?_replicate] at hv
      split at hv <;> cases hv
  have := zent_args G.2.1 av 0 w.1 v hz
  rw [Nat.zero_add, ← he] at this
  exact hl.2.2 w this
theorem MT.mono {G : zG} {mi : zM} {d mc ms : Nat} {av : List zV} {n : Nat} {I : zMem} {R : zRef} {Q Q' : zPo} (h : MT G mi d mc ms av n I R Q) (hq : ∀ r I R, Q r I R → Q' r I R) : MT G mi d mc ms av n I R Q' := by
  unfold MT Met at h ⊢
  refine MetFree.mono h (fun _ _ h => h) (fun _ _ _ _ _ h => h) ?_
  rintro a s o t - ⟨⟨⟨r, I', R', h1, h2, h3, h4⟩, h5⟩, h6⟩
  exact ⟨⟨⟨r, I', R', h1, h2, h3, hq _ _ _ h4⟩, h5⟩, h6⟩
theorem zKn.moved {G : zG} {u U : State} (h : zKn G u) (hW : u.WarmedH U.vm) (hq : ∀ a : Nat, a < u.heap.size → ¬ G.2.1 ≤ a → U.heap[a]? = u.heap[a]?) : zKn G U := ⟨va_K.moved hW.alike h.1, zAOA_moved hW.alike h.2.1, h.2.2.moved hW hq⟩
-- Int32 and Int
theorem z32 {x : Int} (h : zin x) : (Int32.ofInt x).toInt = x := Int32.toInt_ofInt_of_le (by unfold zin at h; omega) (by unfold zin at h; omega)
theorem z64 {x : Int} (h : zinL x) : (Int64.ofInt x).toInt = x := Int64.toInt_ofInt_of_le (by unfold zinL at h; omega) (by unfold zinL at h; omega)
theorem zin_of (x : Int32) : zin x.toInt := ⟨by have := Int32.le_toInt x; omega, by have := Int32.toInt_lt x; omega⟩
theorem zin0 : zin 0 := by unfold zin; omega
theorem z32_eq {x y : Int} (hx : zin x) (hy : zin y) : Int32.ofInt x = Int32.ofInt y ↔ x = y := by rw [← Int32.toInt_inj, z32 hx, z32 hy]
theorem z32_lt {x y : Int} (hx : zin x) (hy : zin y) : Int32.ofInt x < Int32.ofInt y ↔ x < y := by rw [Int32.lt_iff_toInt_lt, z32 hx, z32 hy]
theorem z32_le {x y : Int} (hx : zin x) (hy : zin y) : Int32.ofInt x ≤ Int32.ofInt y ↔ x ≤ y := by rw [Int32.le_iff_toInt_le, z32 hx, z32 hy]
theorem z32_eq0 {x : Int} (hx : zin x) : Int32.ofInt x = 0 ↔ x = 0 := z32_eq hx zin0
theorem z32_lt0 {x : Int} (hx : zin x) : Int32.ofInt x < 0 ↔ x < 0 := z32_lt hx zin0
theorem z32_ge0 {x : Int} (hx : zin x) : 0 ≤ Int32.ofInt x ↔ 0 ≤ x := z32_le zin0 hx
theorem z32_gt0 {x : Int} (hx : zin x) : 0 < Int32.ofInt x ↔ 0 < x := z32_lt zin0 hx
theorem z32_le0 {x : Int} (hx : zin x) : Int32.ofInt x ≤ 0 ↔ x ≤ 0 := z32_le hx zin0
theorem z64_of32 {x : Int} (h : zin x) : (Int32.ofInt x).toInt64 = Int64.ofInt x := by
  apply Int64.toInt_inj.mp
  rw [Int32.toInt_toInt64, z32 h, z64 (by unfold zin at h; unfold zinL; omega)]
theorem z64_eq0 {x : Int} (hx : zinL x) : Int64.ofInt x = 0 ↔ x = 0 := by
  rw [← Int64.toInt_inj, z64 hx]
  exact Iff.rfl
theorem ztdiv_le {x y : Int} (hy : 0 < y) : (x.tdiv y).natAbs ≤ x.natAbs := by
  rw [Int.natAbs_tdiv]
  exact Nat.div_le_self _ _
theorem z32_div {x y : Int} (hx : zin x) (hy : zin y) (h0 : 0 < y) : Int32.ofInt x / Int32.ofInt y = Int32.ofInt (x.tdiv y) := by
  apply Int32.toInt_inj.mp
  rw [Int32.toInt_div_of_ne_right _ _ (fun h => by
    have := congrArg Int32.toInt h
    rw [z32 hy] at this
    have e : (-1 : Int32).toInt = -1 := by decide
    omega), z32 hx, z32 hy, z32]
  have h1 := ztdiv_le (x := x) h0
  unfold zin at *
  by_cases hn : 0 ≤ x
  · have := Int.tdiv_nonneg hn (Int.le_of_lt h0)
    omega
  · have h2 : x.tdiv y ≤ 0 := by
      have := Int.tdiv_nonneg (a := -x) (b := y) (by omega) (Int.le_of_lt h0)
      rw [Int.neg_tdiv] at this
      omega
    omega
theorem z64_div {x y : Int} (hx : zinL x) (hy : zinL y) (h0 : 0 < y) : Int64.ofInt x / Int64.ofInt y = Int64.ofInt (x.tdiv y) := by
  apply Int64.toInt_inj.mp
  rw [Int64.toInt_div_of_ne_right _ _ (fun h => by
    have := congrArg Int64.toInt h
    rw [z64 hy] at this
    have e : (-1 : Int64).toInt = -1 := by decide
    omega), z64 hx, z64 hy, z64]
  have h1 := ztdiv_le (x := x) h0
  unfold zinL at *
  by_cases hn : 0 ≤ x
  · have := Int.tdiv_nonneg hn (Int.le_of_lt h0)
    omega
  · have h2 : x.tdiv y ≤ 0 := by
      have := Int.tdiv_nonneg (a := -x) (b := y) (by omega) (Int.le_of_lt h0)
      rw [Int.neg_tdiv] at this
      omega
    omega
theorem z32_rem {x y : Int} (hx : zin x) (hy : zin y) : Int32.ofInt x - Int32.ofInt x / Int32.ofInt y * Int32.ofInt y = Int32.ofInt (x.tmod y) := by
  rw [irem_eq_mod]
  apply Int32.toInt_inj.mp
  rw [Int32.toInt_mod, z32 hx, z32 hy, z32]
  have h1 : (x.tmod y).natAbs ≤ x.natAbs := by rw [Int.natAbs_tmod]; exact Nat.mod_le _ _
  unfold zin at *
  by_cases hn : 0 ≤ x
  · have := Int.tmod_nonneg y hn
    omega
  · have h2 : x.tmod y ≤ 0 := by
      have := Int.tmod_nonneg (a := -x) y (by omega)
      rw [Int.neg_tmod] at this
      omega
    omega
theorem z64_rem {x y : Int} (hx : zinL x) (hy : zinL y) (h0 : 0 < y) : Int64.ofInt x - Int64.ofInt x / Int64.ofInt y * Int64.ofInt y = Int64.ofInt (x.tmod y) := by
  rw [z64_div hx hy h0, ← Int64.ofInt_mul, ← Int64.ofInt_sub, Int.tmod_def, Int.mul_comm]
theorem z64_cmp {x y : Int} (hx : zinL x) (hy : zinL y) : lg_cmp (Int64.ofInt x) (Int64.ofInt y) = Int32.ofInt (if x < y then -1 else if x = y then 0 else 1) := by
  have h1 : Int64.ofInt x > Int64.ofInt y ↔ y < x := by rw [GT.gt, Int64.lt_iff_toInt_lt, z64 hx, z64 hy]
  have h2 : Int64.ofInt x = Int64.ofInt y ↔ x = y := by rw [← Int64.toInt_inj, z64 hx, z64 hy]
  unfold lg_cmp
  by_cases a : y < x
  · rw [if_pos (h1.mpr a), if_neg (by omega), if_neg (by omega)]
    decide
  · rw [if_neg (fun h => a (h1.mp h))]
    by_cases b : x = y
    · rw [if_pos (h2.mpr b), if_neg (by omega), if_pos b]
      decide
    · rw [if_neg (fun h => b (h2.mp h)), if_pos (by omega)]
      decide
def zone : zV → Bool
  | .inr (.inl _) => false
  | _ => true
theorem zone_cat {B : Nat} {v : zV} (h : zone v = true) : (zc B v).category = 1 := by
  rcases v with x | x | x
  · rfl
  · cases h
  · exact zc_cat3
/-- a store at i touches no long that lies at i - 1 -/
def zok : List (Option zV) → Nat → Bool
  | _, 0 => true
  | ls, i + 1 => match ls[i]? with
    | some (some (.inr (.inl _))) => false
    | _ => true
theorem zok_spec {ls : List (Option zV)} {i j : Nat} {B : Nat} {v : zV} (h : zok ls i = true) (hj : j + 1 = i) (hv : ls[j]? = some (some v)) : (zc B v).category = 1 := by
  subst hj
  have h : (match ls[j]? with
    | some (some (.inr (.inl _))) => false
    | _ => true) = true := h
  rw [hv] at h
  rcases v with x | x | x
  · rfl
  · cases h
  · exact zc_cat3
theorem zLo_set1 {B nL i : Nat} {ls : List (Option zV)} {v : zV} {lsA : Array Slot} (h : lv_has lsA nL ((i, zc B v) :: (zls B ls).filter (fun q => !(q.1 == i) && !(q.1 + 1 == i && q.2.category == 2)))) (hz : zok ls i = true) : zLo B nL (ls.set i (some v)) lsA := by
  refine ⟨h.1, h.2.1, fun w hw => ?_⟩
  obtain ⟨u, hu, he⟩ := zls_in.mp hw
  rw [List.getElem?_set] at hu
  refine h.2.2 w ?_
  by_cases hi : i = w.1
  · rw [if_pos hi] at hu
    split at hu
    · cases hu
      exact List.mem_cons.mpr (Or.inl (by rw [← Prod.eta w, he, hi]))
    · cases hu
  · rw [if_neg hi] at hu
    refine List.mem_cons_of_mem _ (List.mem_filter.mpr ⟨zls_in.mpr ⟨u, hu, he⟩, ?_⟩)
    have h1 : (w.1 == i) = false := by simpa using fun q => hi (q.symm)
    rw [h1]
    by_cases h2 : w.1 + 1 = i
    · have := zok_spec (B := B) hz h2 hu
      rw [he, this]
      simp
    · have : (w.1 + 1 == i) = false := by simpa using h2
      rw [this]
      rfl
theorem zLo_set2 {B nL i : Nat} {ls : List (Option zV)} {v : zV} {lsA : Array Slot} (h : lv_has lsA nL ((i, zc B v) :: (zls B ls).filter (fun q => !(q.1 == i) && (!(q.1 == i + 1) && !(q.1 + 1 == i && q.2.category == 2))))) (hz : zok ls i = true) : zLo B nL ((ls.set i (some v)).set (i + 1) none) lsA := by
  refine ⟨h.1, h.2.1, fun w hw => ?_⟩
  obtain ⟨u, hu, he⟩ := zls_in.mp hw
  rw [List.getElem?_set, List.getElem?_set] at hu
  refine h.2.2 w ?_
  by_cases h0 : i + 1 = w.1
  · rw [if_pos h0] at hu
    split at hu <;> cases hu
  rw [if_neg h0] at hu
  by_cases hi : i = w.1
  · rw [if_pos hi] at hu
    split at hu
    · cases hu
      exact List.mem_cons.mpr (Or.inl (by rw [← Prod.eta w, he, hi]))
    · cases hu
  · rw [if_neg hi] at hu
    refine List.mem_cons_of_mem _ (List.mem_filter.mpr ⟨zls_in.mpr ⟨u, hu, he⟩, ?_⟩)
    have h1 : (w.1 == i) = false := by simpa using fun q => hi (q.symm)
    have h3 : (w.1 == i + 1) = false := by simpa using fun q => h0 (q.symm)
    rw [h1, h3]
    by_cases h2 : w.1 + 1 = i
    · have := zok_spec (B := B) hz h2 hu
      rw [he, this]
      simp
    · have : (w.1 + 1 == i) = false := by simpa using h2
      rw [this]
      rfl
section ZR
variable {G : zG} {mi : zM} {d mc ms k q pc t : Nat} {ls : List (Option zV)} {st : List zV} {n : Nat} {I : zMem} {R : zRef} {Q : zPo}

theorem wp_iconst {v : Int} (hd : mi.2.2.2.2[t]? = some (pc, .iconst v, 1))  (kk : WP G mi d mc ms k q (pc + 1) ls (.inl v :: st) n I R Q) : WP G mi d mc ms k q pc ls st n I R Q := by
  intro p e s m args below meth c H locs lsA F hZ hS hV hL
  obtain ⟨hx, hb, hml, hown, hts, hr, hlk, hnm, hK, hok⟩ := id F
  exact lv_iconst hx hb (ztok_at hok hd) rfl (kk p e s m args below meth c H locs lsA F hZ hS hV hL)

theorem wp_bipush {v : Int} (hd : mi.2.2.2.2[t]? = some (pc, .bipush v, 2)) (hv : (Int8.ofInt v).toInt32 = Int32.ofInt v) (kk : WP G mi d mc ms k q (pc + 2) ls (.inl v :: st) n I R Q) : WP G mi d mc ms k q pc ls st n I R Q := by
  intro p e s m args below meth c H locs lsA F hZ hS hV hL
  obtain ⟨hx, hb, hml, hown, hts, hr, hlk, hnm, hK, hok⟩ := id F
  exact lv_bipush hx hb (ztok_at hok hd) hv (kk p e s m args below meth c H locs lsA F hZ hS hV hL)

theorem wp_sipush {v : Int} (hd : mi.2.2.2.2[t]? = some (pc, .sipush v, 3)) (hv : (Int16.ofInt v).toInt32 = Int32.ofInt v) (kk : WP G mi d mc ms k q (pc + 3) ls (.inl v :: st) n I R Q) : WP G mi d mc ms k q pc ls st n I R Q := by
  intro p e s m args below meth c H locs lsA F hZ hS hV hL
  obtain ⟨hx, hb, hml, hown, hts, hr, hlk, hnm, hK, hok⟩ := id F
  exact lv_sipush hx hb (ztok_at hok hd) hv (kk p e s m args below meth c H locs lsA F hZ hS hV hL)

theorem wp_ldc {x : Nat} (v : Int) {w : Int32} (hd : mi.2.2.2.2[t]? = some (pc, .ldc x, 2)) (hw : Cond.constant mi.1.cls x w ∈ wsL_law) (hv : w = Int32.ofInt v) (kk : WP G mi d mc ms k q (pc + 2) ls (.inl v :: st) n I R Q) : WP G mi d mc ms k q pc ls st n I R Q := by
  intro p e s m args below meth c H locs lsA F hZ hS hV hL
  obtain ⟨hx, hb, hml, hown, hts, hr, hlk, hnm, hK, hok⟩ := id F
  subst hv
  exact lv_ldc hx hb hown (hts _ hw) (ztok_at hok hd) (kk p e s m args below meth c H locs lsA F hZ hS hV hL)

theorem wp_ldcw {x : Nat} (v : Int) {w : Int32} (hd : mi.2.2.2.2[t]? = some (pc, .ldc_w x, 3)) (hw : Cond.constant mi.1.cls x w ∈ wsL_law) (hv : w = Int32.ofInt v) (kk : WP G mi d mc ms k q (pc + 3) ls (.inl v :: st) n I R Q) : WP G mi d mc ms k q pc ls st n I R Q := by
  intro p e s m args below meth c H locs lsA F hZ hS hV hL
  obtain ⟨hx, hb, hml, hown, hts, hr, hlk, hnm, hK, hok⟩ := id F
  subst hv
  exact lv_ldcw hx hb hown (hts _ hw) (ztok_at hok hd) (kk p e s m args below meth c H locs lsA F hZ hS hV hL)

theorem wp_ldc2 {x : Nat} (v : Int) {w : Int64} (hd : mi.2.2.2.2[t]? = some (pc, .ldc2_w x, 3)) (hw : Cond.constantLong mi.1.cls x w ∈ wsL_law) (hv : w = Int64.ofInt v) (kk : WP G mi d mc ms k q (pc + 3) ls (.inr (.inl v) :: st) n I R Q) : WP G mi d mc ms k q pc ls st n I R Q := by
  intro p e s m args below meth c H locs lsA F hZ hS hV hL
  obtain ⟨hx, hb, hml, hown, hts, hr, hlk, hnm, hK, hok⟩ := id F
  subst hv
  exact lv_ldc2 hx hb hown (hts _ hw) (ztok_at hok hd) (kk p e s m args below meth c H locs lsA F hZ hS hV hL)

theorem wp_lconst {x : Fin 2} (v : Int) (hd : mi.2.2.2.2[t]? = some (pc, .lconst x, 1)) (hv : Int64.ofNat (x : Nat) = Int64.ofInt v) (kk : WP G mi d mc ms k q (pc + 1) ls (.inr (.inl v) :: st) n I R Q) : WP G mi d mc ms k q pc ls st n I R Q := by
  intro p e s m args below meth c H locs lsA F hZ hS hV hL
  obtain ⟨hx, hb, hml, hown, hts, hr, hlk, hnm, hK, hok⟩ := id F
  exact lv_lconst hx hb (ztok_at hok hd) hv (kk p e s m args below meth c H locs lsA F hZ hS hV hL)

theorem wp_iload_n {i : Fin 4} {x : Int} (hd : mi.2.2.2.2[t]? = some (pc, .iload_n i, 1)) (hl : ls[(i : Nat)]? = some (some (.inl x))) (kk : WP G mi d mc ms k q (pc + 1) ls (.inl x :: st) n I R Q) : WP G mi d mc ms k q pc ls st n I R Q := by
  intro p e s m args below meth c H locs lsA F hZ hS hV hL
  obtain ⟨hx, hb, hml, hown, hts, hr, hlk, hnm, hK, hok⟩ := id F
  exact lv_iload_n hx hb (ztok_at hok hd) rfl (hL.at hl) (kk p e s m args below meth c H locs lsA F hZ hS hV hL)

theorem wp_iload {i : Nat} {x : Int} (hd : mi.2.2.2.2[t]? = some (pc, .iload i, 2)) (hl : ls[i]? = some (some (.inl x))) (kk : WP G mi d mc ms k q (pc + 2) ls (.inl x :: st) n I R Q) : WP G mi d mc ms k q pc ls st n I R Q := by
  intro p e s m args below meth c H locs lsA F hZ hS hV hL
  obtain ⟨hx, hb, hml, hown, hts, hr, hlk, hnm, hK, hok⟩ := id F
  exact lv_iload hx hb (ztok_at hok hd) (hL.at hl) (kk p e s m args below meth c H locs lsA F hZ hS hV hL)

theorem wp_lload_n {i : Fin 4} {x : Int} (hd : mi.2.2.2.2[t]? = some (pc, .lload_n i, 1)) (hl : ls[(i : Nat)]? = some (some (.inr (.inl x)))) (kk : WP G mi d mc ms k q (pc + 1) ls (.inr (.inl x) :: st) n I R Q) : WP G mi d mc ms k q pc ls st n I R Q := by
  intro p e s m args below meth c H locs lsA F hZ hS hV hL
  obtain ⟨hx, hb, hml, hown, hts, hr, hlk, hnm, hK, hok⟩ := id F
  exact lv_lload_n hx hb (ztok_at hok hd) rfl (hL.at hl) (kk p e s m args below meth c H locs lsA F hZ hS hV hL)

theorem wp_lload {i : Nat} {x : Int} (hd : mi.2.2.2.2[t]? = some (pc, .lload i, 2)) (hl : ls[i]? = some (some (.inr (.inl x)))) (kk : WP G mi d mc ms k q (pc + 2) ls (.inr (.inl x) :: st) n I R Q) : WP G mi d mc ms k q pc ls st n I R Q := by
  intro p e s m args below meth c H locs lsA F hZ hS hV hL
  obtain ⟨hx, hb, hml, hown, hts, hr, hlk, hnm, hK, hok⟩ := id F
  exact lv_lload hx hb (ztok_at hok hd) (hL.at hl) (kk p e s m args below meth c H locs lsA F hZ hS hV hL)

theorem wp_aload_n {i : Fin 4} {x : Nat} (hd : mi.2.2.2.2[t]? = some (pc, .aload_n i, 1)) (hl : ls[(i : Nat)]? = some (some (zR x))) (kk : WP G mi d mc ms k q (pc + 1) ls (zR x :: st) n I R Q) : WP G mi d mc ms k q pc ls st n I R Q := by
  intro p e s m args below meth c H locs lsA F hZ hS hV hL
  obtain ⟨hx, hb, hml, hown, hts, hr, hlk, hnm, hK, hok⟩ := id F
  exact lv_aload_n hx hb (ztok_at hok hd) rfl (hL.at hl) (kk p e s m args below meth c H locs lsA F hZ hS hV hL)

theorem wp_aload {i : Nat} {x : Nat} (hd : mi.2.2.2.2[t]? = some (pc, .aload i, 2)) (hl : ls[i]? = some (some (zR x))) (kk : WP G mi d mc ms k q (pc + 2) ls (zR x :: st) n I R Q) : WP G mi d mc ms k q pc ls st n I R Q := by
  intro p e s m args below meth c H locs lsA F hZ hS hV hL
  obtain ⟨hx, hb, hml, hown, hts, hr, hlk, hnm, hK, hok⟩ := id F
  exact lv_aload hx hb (ztok_at hok hd) (hL.at hl) (kk p e s m args below meth c H locs lsA F hZ hS hV hL)

theorem wp_istore_n {i : Fin 4} {x : Int} (hd : mi.2.2.2.2[t]? = some (pc, .istore_n i, 1)) (hi : (i : Nat) < mi.2.2.1) (hz : zok ls i = true) (kk : WP G mi d mc ms k q (pc + 1) (ls.set i (some (.inl x))) st n I R Q) : WP G mi d mc ms k q pc ls (.inl x :: st) n I R Q := by
  intro p e s m args below meth c H locs lsA F hZ hS hV hL
  obtain ⟨hx, hb, hml, hown, hts, hr, hlk, hnm, hK, hok⟩ := id F
  exact lv_istore_n hx hb (ztok_at hok hd) rfl hL hi rfl (fun ls2 hl2 => kk p e s m args below meth c H locs _ F hZ hS hV (zLo_set1 hl2 hz))

theorem wp_istore {i : Nat} {x : Int} (hd : mi.2.2.2.2[t]? = some (pc, .istore i, 2)) (hi : i < mi.2.2.1) (hz : zok ls i = true) (kk : WP G mi d mc ms k q (pc + 2) (ls.set i (some (.inl x))) st n I R Q) : WP G mi d mc ms k q pc ls (.inl x :: st) n I R Q := by
  intro p e s m args below meth c H locs lsA F hZ hS hV hL
  obtain ⟨hx, hb, hml, hown, hts, hr, hlk, hnm, hK, hok⟩ := id F
  exact lv_istore hx hb (ztok_at hok hd) hL hi rfl (fun ls2 hl2 => kk p e s m args below meth c H locs _ F hZ hS hV (zLo_set1 hl2 hz))

theorem wp_astore_n {i : Fin 4} {x : Nat} (hd : mi.2.2.2.2[t]? = some (pc, .astore_n i, 1)) (hi : (i : Nat) < mi.2.2.1) (hz : zok ls i = true) (kk : WP G mi d mc ms k q (pc + 1) (ls.set i (some (zR x))) st n I R Q) : WP G mi d mc ms k q pc ls (zR x :: st) n I R Q := by
  intro p e s m args below meth c H locs lsA F hZ hS hV hL
  obtain ⟨hx, hb, hml, hown, hts, hr, hlk, hnm, hK, hok⟩ := id F
  exact lv_astore_n hx hb (ztok_at hok hd) rfl hL hi rfl (fun ls2 hl2 => kk p e s m args below meth c H locs _ F hZ hS hV (zLo_set1 hl2 hz))

theorem wp_astore {i : Nat} {x : Nat} (hd : mi.2.2.2.2[t]? = some (pc, .astore i, 2)) (hi : i < mi.2.2.1) (hz : zok ls i = true) (kk : WP G mi d mc ms k q (pc + 2) (ls.set i (some (zR x))) st n I R Q) : WP G mi d mc ms k q pc ls (zR x :: st) n I R Q := by
  intro p e s m args below meth c H locs lsA F hZ hS hV hL
  obtain ⟨hx, hb, hml, hown, hts, hr, hlk, hnm, hK, hok⟩ := id F
  exact lv_astore hx hb (ztok_at hok hd) hL hi rfl (fun ls2 hl2 => kk p e s m args below meth c H locs _ F hZ hS hV (zLo_set1 hl2 hz))

theorem wp_lstore_n {i : Fin 4} {x : Int} (hd : mi.2.2.2.2[t]? = some (pc, .lstore_n i, 1)) (hi : (i : Nat) + 1 < mi.2.2.1) (hz : zok ls i = true) (kk : WP G mi d mc ms k q (pc + 1) ((ls.set i (some (.inr (.inl x)))).set (i + 1) none) st n I R Q) : WP G mi d mc ms k q pc ls (.inr (.inl x) :: st) n I R Q := by
  intro p e s m args below meth c H locs lsA F hZ hS hV hL
  obtain ⟨hx, hb, hml, hown, hts, hr, hlk, hnm, hK, hok⟩ := id F
  exact lv_lstore_n hx hb (ztok_at hok hd) rfl hL hi rfl (fun ls2 hl2 => kk p e s m args below meth c H locs _ F hZ hS hV (zLo_set2 hl2 hz))

theorem wp_lstore {i : Nat} {x : Int} (hd : mi.2.2.2.2[t]? = some (pc, .lstore i, 2)) (hi : i + 1 < mi.2.2.1) (hz : zok ls i = true) (kk : WP G mi d mc ms k q (pc + 2) ((ls.set i (some (.inr (.inl x)))).set (i + 1) none) st n I R Q) : WP G mi d mc ms k q pc ls (.inr (.inl x) :: st) n I R Q := by
  intro p e s m args below meth c H locs lsA F hZ hS hV hL
  obtain ⟨hx, hb, hml, hown, hts, hr, hlk, hnm, hK, hok⟩ := id F
  exact lv_lstore hx hb (ztok_at hok hd) hL hi rfl (fun ls2 hl2 => kk p e s m args below meth c H locs _ F hZ hS hV (zLo_set2 hl2 hz))

theorem wp_iinc {i : Nat} {v x : Int} (hd : mi.2.2.2.2[t]? = some (pc, .iinc i v, 3)) (hl : ls[i]? = some (some (.inl x))) (hi : i < mi.2.2.1) (hz : zok ls i = true) (kk : WP G mi d mc ms k q (pc + 3) (ls.set i (some (.inl (x + v)))) st n I R Q) : WP G mi d mc ms k q pc ls st n I R Q := by
  intro p e s m args below meth c H locs lsA F hZ hS hV hL
  obtain ⟨hx, hb, hml, hown, hts, hr, hlk, hnm, hK, hok⟩ := id F
  obtain ⟨j, hj⟩ := List.mem_iff_getElem?.mp (zls_in (B := G.2.1) (q := (i, zc G.2.1 (.inl x))).mpr ⟨_, hl, rfl⟩)
  refine lv_iinc (v := Int32.ofInt (x + v)) hx hb (ztok_at hok hd) hL hj (Int32.ofInt_add x v).symm hi rfl (fun ls2 hl2 => kk p e s m args below meth c H locs _ F hZ hS hV (zLo_set1 (v := .inl (x + v)) hl2 hz))

theorem wp_iadd {x y : Int} (hd : mi.2.2.2.2[t]? = some (pc, .iadd, 1))  (kk : WP G mi d mc ms k q (pc + 1) ls (.inl (x + y) :: st) n I R Q) : WP G mi d mc ms k q pc ls (.inl y :: .inl x :: st) n I R Q := by
  intro p e s m args below meth c H locs lsA F hZ hS hV hL
  obtain ⟨hx, hb, hml, hown, hts, hr, hlk, hnm, hK, hok⟩ := id F
  refine lv_iadd hx hb (ztok_at hok hd) ?_
  rw [← Int32.ofInt_add]
  exact kk p e s m args below meth c H locs lsA F hZ hS hV hL

theorem wp_isub {x y : Int} (hd : mi.2.2.2.2[t]? = some (pc, .isub, 1))  (kk : WP G mi d mc ms k q (pc + 1) ls (.inl (x - y) :: st) n I R Q) : WP G mi d mc ms k q pc ls (.inl y :: .inl x :: st) n I R Q := by
  intro p e s m args below meth c H locs lsA F hZ hS hV hL
  obtain ⟨hx, hb, hml, hown, hts, hr, hlk, hnm, hK, hok⟩ := id F
  refine lv_isub hx hb (ztok_at hok hd) ?_
  rw [← Int32.ofInt_sub]
  exact kk p e s m args below meth c H locs lsA F hZ hS hV hL

theorem wp_imul {x y : Int} (hd : mi.2.2.2.2[t]? = some (pc, .imul, 1))  (kk : WP G mi d mc ms k q (pc + 1) ls (.inl (x * y) :: st) n I R Q) : WP G mi d mc ms k q pc ls (.inl y :: .inl x :: st) n I R Q := by
  intro p e s m args below meth c H locs lsA F hZ hS hV hL
  obtain ⟨hx, hb, hml, hown, hts, hr, hlk, hnm, hK, hok⟩ := id F
  refine lv_imul hx hb (ztok_at hok hd) ?_
  rw [← Int32.ofInt_mul]
  exact kk p e s m args below meth c H locs lsA F hZ hS hV hL

def ziand (x y : Int) : Int := (Int32.ofInt x &&& Int32.ofInt y).toInt

theorem wp_iand {x y : Int} (hd : mi.2.2.2.2[t]? = some (pc, .iand, 1))  (kk : WP G mi d mc ms k q (pc + 1) ls (.inl (ziand x y) :: st) n I R Q) : WP G mi d mc ms k q pc ls (.inl y :: .inl x :: st) n I R Q := by
  intro p e s m args below meth c H locs lsA F hZ hS hV hL
  obtain ⟨hx, hb, hml, hown, hts, hr, hlk, hnm, hK, hok⟩ := id F
  refine lv_iand hx hb (ztok_at hok hd) ?_
  have h := kk p e s m args below meth c H locs lsA F hZ hS hV hL
  rw [List.map_cons, show zc G.2.1 (.inl (ziand x y)) = .int (Int32.ofInt x &&& Int32.ofInt y) from congrArg Value.int (Int32.ofInt_toInt _)] at h
  exact h

def zior (x y : Int) : Int := (Int32.ofInt x ||| Int32.ofInt y).toInt

theorem wp_ior {x y : Int} (hd : mi.2.2.2.2[t]? = some (pc, .ior, 1))  (kk : WP G mi d mc ms k q (pc + 1) ls (.inl (zior x y) :: st) n I R Q) : WP G mi d mc ms k q pc ls (.inl y :: .inl x :: st) n I R Q := by
  intro p e s m args below meth c H locs lsA F hZ hS hV hL
  obtain ⟨hx, hb, hml, hown, hts, hr, hlk, hnm, hK, hok⟩ := id F
  refine lv_ior hx hb (ztok_at hok hd) ?_
  have h := kk p e s m args below meth c H locs lsA F hZ hS hV hL
  rw [List.map_cons, show zc G.2.1 (.inl (zior x y)) = .int (Int32.ofInt x ||| Int32.ofInt y) from congrArg Value.int (Int32.ofInt_toInt _)] at h
  exact h

def zixor (x y : Int) : Int := (Int32.ofInt x ^^^ Int32.ofInt y).toInt

theorem wp_ixor {x y : Int} (hd : mi.2.2.2.2[t]? = some (pc, .ixor, 1))  (kk : WP G mi d mc ms k q (pc + 1) ls (.inl (zixor x y) :: st) n I R Q) : WP G mi d mc ms k q pc ls (.inl y :: .inl x :: st) n I R Q := by
  intro p e s m args below meth c H locs lsA F hZ hS hV hL
  obtain ⟨hx, hb, hml, hown, hts, hr, hlk, hnm, hK, hok⟩ := id F
  refine lv_ixor hx hb (ztok_at hok hd) ?_
  have h := kk p e s m args below meth c H locs lsA F hZ hS hV hL
  rw [List.map_cons, show zc G.2.1 (.inl (zixor x y)) = .int (Int32.ofInt x ^^^ Int32.ofInt y) from congrArg Value.int (Int32.ofInt_toInt _)] at h
  exact h

def zishl (x y : Int) : Int := (Int32.ofInt x <<< (Int32.ofInt y &&& 31)).toInt

theorem wp_ishl {x y : Int} (hd : mi.2.2.2.2[t]? = some (pc, .ishl, 1))  (kk : WP G mi d mc ms k q (pc + 1) ls (.inl (zishl x y) :: st) n I R Q) : WP G mi d mc ms k q pc ls (.inl y :: .inl x :: st) n I R Q := by
  intro p e s m args below meth c H locs lsA F hZ hS hV hL
  obtain ⟨hx, hb, hml, hown, hts, hr, hlk, hnm, hK, hok⟩ := id F
  refine lv_ishl hx hb (ztok_at hok hd) ?_
  have h := kk p e s m args below meth c H locs lsA F hZ hS hV hL
  rw [List.map_cons, show zc G.2.1 (.inl (zishl x y)) = .int (Int32.ofInt x <<< (Int32.ofInt y &&& 31)) from congrArg Value.int (Int32.ofInt_toInt _)] at h
  exact h

def zishr (x y : Int) : Int := (Int32.ofInt x >>> (Int32.ofInt y &&& 31)).toInt

theorem wp_ishr {x y : Int} (hd : mi.2.2.2.2[t]? = some (pc, .ishr, 1))  (kk : WP G mi d mc ms k q (pc + 1) ls (.inl (zishr x y) :: st) n I R Q) : WP G mi d mc ms k q pc ls (.inl y :: .inl x :: st) n I R Q := by
  intro p e s m args below meth c H locs lsA F hZ hS hV hL
  obtain ⟨hx, hb, hml, hown, hts, hr, hlk, hnm, hK, hok⟩ := id F
  refine lv_ishr hx hb (ztok_at hok hd) ?_
  have h := kk p e s m args below meth c H locs lsA F hZ hS hV hL
  rw [List.map_cons, show zc G.2.1 (.inl (zishr x y)) = .int (Int32.ofInt x >>> (Int32.ofInt y &&& 31)) from congrArg Value.int (Int32.ofInt_toInt _)] at h
  exact h

theorem wp_idiv {x y : Int} (hd : mi.2.2.2.2[t]? = some (pc, .idiv, 1)) (hx0 : zin x) (hy0 : zin y) (hy1 : 0 < y) (kk : WP G mi d mc ms k q (pc + 1) ls (.inl (x.tdiv y) :: st) n I R Q) : WP G mi d mc ms k q pc ls (.inl y :: .inl x :: st) n I R Q := by
  intro p e s m args below meth c H locs lsA F hZ hS hV hL
  obtain ⟨hx, hb, hml, hown, hts, hr, hlk, hnm, hK, hok⟩ := id F
  refine lv_idiv hx hb (ztok_at hok hd) (fun h => by rw [z32_eq0 hy0] at h; omega) ?_
  rw [z32_div hx0 hy0 hy1]
  exact kk p e s m args below meth c H locs lsA F hZ hS hV hL

theorem wp_irem {x y : Int} (hd : mi.2.2.2.2[t]? = some (pc, .irem, 1)) (hx0 : zin x) (hy0 : zin y) (hy1 : 0 < y) (kk : WP G mi d mc ms k q (pc + 1) ls (.inl (x.tmod y) :: st) n I R Q) : WP G mi d mc ms k q pc ls (.inl y :: .inl x :: st) n I R Q := by
  intro p e s m args below meth c H locs lsA F hZ hS hV hL
  obtain ⟨hx, hb, hml, hown, hts, hr, hlk, hnm, hK, hok⟩ := id F
  refine lv_irem hx hb (ztok_at hok hd) (fun h => by rw [z32_eq0 hy0] at h; omega) ?_
  rw [z32_rem hx0 hy0]
  exact kk p e s m args below meth c H locs lsA F hZ hS hV hL

theorem wp_i2l {x : Int} (hd : mi.2.2.2.2[t]? = some (pc, .i2l, 1)) (hx0 : zin x) (kk : WP G mi d mc ms k q (pc + 1) ls (.inr (.inl x) :: st) n I R Q) : WP G mi d mc ms k q pc ls (.inl x :: st) n I R Q := by
  intro p e s m args below meth c H locs lsA F hZ hS hV hL
  obtain ⟨hx, hb, hml, hown, hts, hr, hlk, hnm, hK, hok⟩ := id F
  exact lv_i2l hx hb (ztok_at hok hd) (z64_of32 hx0) (kk p e s m args below meth c H locs lsA F hZ hS hV hL)

theorem wp_l2i {x : Int} (hd : mi.2.2.2.2[t]? = some (pc, .l2i, 1))  (kk : WP G mi d mc ms k q (pc + 1) ls (.inl x :: st) n I R Q) : WP G mi d mc ms k q pc ls (.inr (.inl x) :: st) n I R Q := by
  intro p e s m args below meth c H locs lsA F hZ hS hV hL
  obtain ⟨hx, hb, hml, hown, hts, hr, hlk, hnm, hK, hok⟩ := id F
  exact lv_l2i hx hb (ztok_at hok hd) Int64.toInt32_ofInt (kk p e s m args below meth c H locs lsA F hZ hS hV hL)

theorem wp_ldiv {x y : Int} (hd : mi.2.2.2.2[t]? = some (pc, .ldiv, 1)) (hx0 : zinL x) (hy0 : zinL y) (hy1 : 0 < y) (kk : WP G mi d mc ms k q (pc + 1) ls (.inr (.inl (x.tdiv y)) :: st) n I R Q) : WP G mi d mc ms k q pc ls (.inr (.inl y) :: .inr (.inl x) :: st) n I R Q := by
  intro p e s m args below meth c H locs lsA F hZ hS hV hL
  obtain ⟨hx, hb, hml, hown, hts, hr, hlk, hnm, hK, hok⟩ := id F
  have h := kk p e s m args below meth c H locs lsA F hZ hS hV hL
  refine lv_ldiv hx hb (ztok_at hok hd) (fun h => by rw [z64_eq0 hy0] at h; omega) ?_
  rw [z64_div hx0 hy0 hy1]
  exact h

theorem wp_lrem {x y : Int} (hd : mi.2.2.2.2[t]? = some (pc, .lrem, 1)) (hx0 : zinL x) (hy0 : zinL y) (hy1 : 0 < y) (kk : WP G mi d mc ms k q (pc + 1) ls (.inr (.inl (x.tmod y)) :: st) n I R Q) : WP G mi d mc ms k q pc ls (.inr (.inl y) :: .inr (.inl x) :: st) n I R Q := by
  intro p e s m args below meth c H locs lsA F hZ hS hV hL
  obtain ⟨hx, hb, hml, hown, hts, hr, hlk, hnm, hK, hok⟩ := id F
  have h := kk p e s m args below meth c H locs lsA F hZ hS hV hL
  refine lv_lrem hx hb (ztok_at hok hd) (fun h => by rw [z64_eq0 hy0] at h; omega) ?_
  rw [z64_rem hx0 hy0 hy1]
  exact h

def zcmp (x y : Int) : Int := if x < y then -1 else if x = y then 0 else 1

theorem wp_lcmp {x y : Int} (hd : mi.2.2.2.2[t]? = some (pc, .lcmp, 1)) (hx0 : zinL x) (hy0 : zinL y) (kk : WP G mi d mc ms k q (pc + 1) ls (.inl (zcmp x y) :: st) n I R Q) : WP G mi d mc ms k q pc ls (.inr (.inl y) :: .inr (.inl x) :: st) n I R Q := by
  intro p e s m args below meth c H locs lsA F hZ hS hV hL
  obtain ⟨hx, hb, hml, hown, hts, hr, hlk, hnm, hK, hok⟩ := id F
  have h := kk p e s m args below meth c H locs lsA F hZ hS hV hL
  refine W.lcmp hx hb (ztok_at hok hd) ?_
  rw [z64_cmp hx0 hy0]
  exact h

theorem wp_dup {v : zV} (hd : mi.2.2.2.2[t]? = some (pc, .dup, 1)) (hv : zone v = true) (kk : WP G mi d mc ms k q (pc + 1) ls (v :: v :: st) n I R Q) : WP G mi d mc ms k q pc ls (v :: st) n I R Q := by
  intro p e s m args below meth c H locs lsA F hZ hS hV hL
  obtain ⟨hx, hb, hml, hown, hts, hr, hlk, hnm, hK, hok⟩ := id F
  exact lv_dup hx hb (ztok_at hok hd) (zone_cat hv) (kk p e s m args below meth c H locs lsA F hZ hS hV hL)

theorem wp_pop {v : zV} (hd : mi.2.2.2.2[t]? = some (pc, .pop, 1)) (hv : zone v = true) (kk : WP G mi d mc ms k q (pc + 1) ls st n I R Q) : WP G mi d mc ms k q pc ls (v :: st) n I R Q := by
  intro p e s m args below meth c H locs lsA F hZ hS hV hL
  obtain ⟨hx, hb, hml, hown, hts, hr, hlk, hnm, hK, hok⟩ := id F
  exact lv_pop hx hb (ztok_at hok hd) (zone_cat hv) (kk p e s m args below meth c H locs lsA F hZ hS hV hL)

theorem wp_dup2 {v w : zV} (hd : mi.2.2.2.2[t]? = some (pc, .dup2, 1)) (hv : zone v = true) (hw : zone w = true) (kk : WP G mi d mc ms k q (pc + 1) ls (v :: w :: v :: w :: st) n I R Q) : WP G mi d mc ms k q pc ls (v :: w :: st) n I R Q := by
  intro p e s m args below meth c H locs lsA F hZ hS hV hL
  obtain ⟨hx, hb, hml, hown, hts, hr, hlk, hnm, hK, hok⟩ := id F
  exact lv_dup2_11 hx hb (ztok_at hok hd) (zone_cat hv) (zone_cat hw) (kk p e s m args below meth c H locs lsA F hZ hS hV hL)

theorem wp_goto {off : Int} {tgt : Nat} (hd : mi.2.2.2.2[t]? = some (pc, .goto off, 3)) (ht : (pc : Int) + off = (tgt : Int)) (kk : WP G mi d mc ms k q tgt ls st n I R Q) : WP G mi d mc ms k q pc ls st n I R Q := by
  intro p e s m args below meth c H locs lsA F hZ hS hV hL
  obtain ⟨hx, hb, hml, hown, hts, hr, hlk, hnm, hK, hok⟩ := id F
  exact lv_goto hx hb (ztok_at hok hd) ht (kk p e s m args below meth c H locs lsA F hZ hS hV hL)

theorem wp_if_eq {x off : Int} {tgt : Nat} (hd : mi.2.2.2.2[t]? = some (pc, .ifCond .eq off, 3)) (ht : (pc : Int) + off = (tgt : Int)) (hz : zin x) (kt : x = 0 → WP G mi d mc ms k q tgt ls st n I R Q) (kf : ¬ x = 0 → WP G mi d mc ms k q (pc + 3) ls st n I R Q) : WP G mi d mc ms k q pc ls (.inl x :: st) n I R Q := by
  intro p e s m args below meth c H locs lsA F hZ hS hV hL
  obtain ⟨hx, hb, hml, hown, hts, hr, hlk, hnm, hK, hok⟩ := id F
  exact lv_if_eq hx hb (ztok_at hok hd) ht (fun h => kt ((z32_eq0 hz).mp h) p e s m args below meth c H locs lsA F hZ hS hV hL) (fun h => kf (fun h1 => h ((z32_eq0 hz).mpr h1)) p e s m args below meth c H locs lsA F hZ hS hV hL)

theorem wp_if_ne {x off : Int} {tgt : Nat} (hd : mi.2.2.2.2[t]? = some (pc, .ifCond .ne off, 3)) (ht : (pc : Int) + off = (tgt : Int)) (hz : zin x) (kt : ¬ x = 0 → WP G mi d mc ms k q tgt ls st n I R Q) (kf : x = 0 → WP G mi d mc ms k q (pc + 3) ls st n I R Q) : WP G mi d mc ms k q pc ls (.inl x :: st) n I R Q := by
  intro p e s m args below meth c H locs lsA F hZ hS hV hL
  obtain ⟨hx, hb, hml, hown, hts, hr, hlk, hnm, hK, hok⟩ := id F
  exact lv_if_ne hx hb (ztok_at hok hd) ht (fun h => kt (fun h1 => h ((z32_eq0 hz).mpr h1)) p e s m args below meth c H locs lsA F hZ hS hV hL) (fun h => kf ((z32_eq0 hz).mp h) p e s m args below meth c H locs lsA F hZ hS hV hL)

theorem wp_if_lt {x off : Int} {tgt : Nat} (hd : mi.2.2.2.2[t]? = some (pc, .ifCond .lt off, 3)) (ht : (pc : Int) + off = (tgt : Int)) (hz : zin x) (kt : x < 0 → WP G mi d mc ms k q tgt ls st n I R Q) (kf : ¬ x < 0 → WP G mi d mc ms k q (pc + 3) ls st n I R Q) : WP G mi d mc ms k q pc ls (.inl x :: st) n I R Q := by
  intro p e s m args below meth c H locs lsA F hZ hS hV hL
  obtain ⟨hx, hb, hml, hown, hts, hr, hlk, hnm, hK, hok⟩ := id F
  exact lv_if_lt hx hb (ztok_at hok hd) ht (fun h => kt ((z32_lt0 hz).mp h) p e s m args below meth c H locs lsA F hZ hS hV hL) (fun h => kf (fun h1 => h ((z32_lt0 hz).mpr h1)) p e s m args below meth c H locs lsA F hZ hS hV hL)

theorem wp_if_ge {x off : Int} {tgt : Nat} (hd : mi.2.2.2.2[t]? = some (pc, .ifCond .ge off, 3)) (ht : (pc : Int) + off = (tgt : Int)) (hz : zin x) (kt : 0 ≤ x → WP G mi d mc ms k q tgt ls st n I R Q) (kf : ¬ 0 ≤ x → WP G mi d mc ms k q (pc + 3) ls st n I R Q) : WP G mi d mc ms k q pc ls (.inl x :: st) n I R Q := by
  intro p e s m args below meth c H locs lsA F hZ hS hV hL
  obtain ⟨hx, hb, hml, hown, hts, hr, hlk, hnm, hK, hok⟩ := id F
  exact lv_if_ge hx hb (ztok_at hok hd) ht (fun h => kt ((z32_ge0 hz).mp h) p e s m args below meth c H locs lsA F hZ hS hV hL) (fun h => kf (fun h1 => h ((z32_ge0 hz).mpr h1)) p e s m args below meth c H locs lsA F hZ hS hV hL)

theorem wp_if_gt {x off : Int} {tgt : Nat} (hd : mi.2.2.2.2[t]? = some (pc, .ifCond .gt off, 3)) (ht : (pc : Int) + off = (tgt : Int)) (hz : zin x) (kt : 0 < x → WP G mi d mc ms k q tgt ls st n I R Q) (kf : ¬ 0 < x → WP G mi d mc ms k q (pc + 3) ls st n I R Q) : WP G mi d mc ms k q pc ls (.inl x :: st) n I R Q := by
  intro p e s m args below meth c H locs lsA F hZ hS hV hL
  obtain ⟨hx, hb, hml, hown, hts, hr, hlk, hnm, hK, hok⟩ := id F
  exact lv_if_gt hx hb (ztok_at hok hd) ht (fun h => kt ((z32_gt0 hz).mp h) p e s m args below meth c H locs lsA F hZ hS hV hL) (fun h => kf (fun h1 => h ((z32_gt0 hz).mpr h1)) p e s m args below meth c H locs lsA F hZ hS hV hL)

theorem wp_if_le {x off : Int} {tgt : Nat} (hd : mi.2.2.2.2[t]? = some (pc, .ifCond .le off, 3)) (ht : (pc : Int) + off = (tgt : Int)) (hz : zin x) (kt : x ≤ 0 → WP G mi d mc ms k q tgt ls st n I R Q) (kf : ¬ x ≤ 0 → WP G mi d mc ms k q (pc + 3) ls st n I R Q) : WP G mi d mc ms k q pc ls (.inl x :: st) n I R Q := by
  intro p e s m args below meth c H locs lsA F hZ hS hV hL
  obtain ⟨hx, hb, hml, hown, hts, hr, hlk, hnm, hK, hok⟩ := id F
  exact lv_if_le hx hb (ztok_at hok hd) ht (fun h => kt ((z32_le0 hz).mp h) p e s m args below meth c H locs lsA F hZ hS hV hL) (fun h => kf (fun h1 => h ((z32_le0 hz).mpr h1)) p e s m args below meth c H locs lsA F hZ hS hV hL)

theorem wp_icmp_eq {x y off : Int} {tgt : Nat} (hd : mi.2.2.2.2[t]? = some (pc, .if_icmp .eq off, 3)) (ht : (pc : Int) + off = (tgt : Int)) (hz : zin x) (hw : zin y) (kt : x = y → WP G mi d mc ms k q tgt ls st n I R Q) (kf : ¬ (x = y) → WP G mi d mc ms k q (pc + 3) ls st n I R Q) : WP G mi d mc ms k q pc ls (.inl y :: .inl x :: st) n I R Q := by
  intro p e s m args below meth c H locs lsA F hZ hS hV hL
  obtain ⟨hx, hb, hml, hown, hts, hr, hlk, hnm, hK, hok⟩ := id F
  exact lv_icmp_eq hx hb (ztok_at hok hd) ht (fun h => kt ((z32_eq hz hw).mp h) p e s m args below meth c H locs lsA F hZ hS hV hL) (fun h => kf (fun h1 => h ((z32_eq hz hw).mpr h1)) p e s m args below meth c H locs lsA F hZ hS hV hL)

theorem wp_icmp_ne {x y off : Int} {tgt : Nat} (hd : mi.2.2.2.2[t]? = some (pc, .if_icmp .ne off, 3)) (ht : (pc : Int) + off = (tgt : Int)) (hz : zin x) (hw : zin y) (kt : ¬ (x = y) → WP G mi d mc ms k q tgt ls st n I R Q) (kf : x = y → WP G mi d mc ms k q (pc + 3) ls st n I R Q) : WP G mi d mc ms k q pc ls (.inl y :: .inl x :: st) n I R Q := by
  intro p e s m args below meth c H locs lsA F hZ hS hV hL
  obtain ⟨hx, hb, hml, hown, hts, hr, hlk, hnm, hK, hok⟩ := id F
  exact lv_icmp_ne hx hb (ztok_at hok hd) ht (fun h => kt (fun h1 => h ((z32_eq hz hw).mpr h1)) p e s m args below meth c H locs lsA F hZ hS hV hL) (fun h => kf ((z32_eq hz hw).mp h) p e s m args below meth c H locs lsA F hZ hS hV hL)

theorem wp_icmp_lt {x y off : Int} {tgt : Nat} (hd : mi.2.2.2.2[t]? = some (pc, .if_icmp .lt off, 3)) (ht : (pc : Int) + off = (tgt : Int)) (hz : zin x) (hw : zin y) (kt : x < y → WP G mi d mc ms k q tgt ls st n I R Q) (kf : ¬ (x < y) → WP G mi d mc ms k q (pc + 3) ls st n I R Q) : WP G mi d mc ms k q pc ls (.inl y :: .inl x :: st) n I R Q := by
  intro p e s m args below meth c H locs lsA F hZ hS hV hL
  obtain ⟨hx, hb, hml, hown, hts, hr, hlk, hnm, hK, hok⟩ := id F
  exact lv_icmp_lt hx hb (ztok_at hok hd) ht (fun h => kt ((z32_lt hz hw).mp h) p e s m args below meth c H locs lsA F hZ hS hV hL) (fun h => kf (fun h1 => h ((z32_lt hz hw).mpr h1)) p e s m args below meth c H locs lsA F hZ hS hV hL)

theorem wp_icmp_ge {x y off : Int} {tgt : Nat} (hd : mi.2.2.2.2[t]? = some (pc, .if_icmp .ge off, 3)) (ht : (pc : Int) + off = (tgt : Int)) (hz : zin x) (hw : zin y) (kt : y ≤ x → WP G mi d mc ms k q tgt ls st n I R Q) (kf : ¬ (y ≤ x) → WP G mi d mc ms k q (pc + 3) ls st n I R Q) : WP G mi d mc ms k q pc ls (.inl y :: .inl x :: st) n I R Q := by
  intro p e s m args below meth c H locs lsA F hZ hS hV hL
  obtain ⟨hx, hb, hml, hown, hts, hr, hlk, hnm, hK, hok⟩ := id F
  exact lv_icmp_ge hx hb (ztok_at hok hd) ht (fun h => kt ((z32_le hw hz).mp h) p e s m args below meth c H locs lsA F hZ hS hV hL) (fun h => kf (fun h1 => h ((z32_le hw hz).mpr h1)) p e s m args below meth c H locs lsA F hZ hS hV hL)

theorem wp_icmp_gt {x y off : Int} {tgt : Nat} (hd : mi.2.2.2.2[t]? = some (pc, .if_icmp .gt off, 3)) (ht : (pc : Int) + off = (tgt : Int)) (hz : zin x) (hw : zin y) (kt : y < x → WP G mi d mc ms k q tgt ls st n I R Q) (kf : ¬ (y < x) → WP G mi d mc ms k q (pc + 3) ls st n I R Q) : WP G mi d mc ms k q pc ls (.inl y :: .inl x :: st) n I R Q := by
  intro p e s m args below meth c H locs lsA F hZ hS hV hL
  obtain ⟨hx, hb, hml, hown, hts, hr, hlk, hnm, hK, hok⟩ := id F
  exact lv_icmp_gt hx hb (ztok_at hok hd) ht (fun h => kt ((z32_lt hw hz).mp h) p e s m args below meth c H locs lsA F hZ hS hV hL) (fun h => kf (fun h1 => h ((z32_lt hw hz).mpr h1)) p e s m args below meth c H locs lsA F hZ hS hV hL)

theorem wp_icmp_le {x y off : Int} {tgt : Nat} (hd : mi.2.2.2.2[t]? = some (pc, .if_icmp .le off, 3)) (ht : (pc : Int) + off = (tgt : Int)) (hz : zin x) (hw : zin y) (kt : x ≤ y → WP G mi d mc ms k q tgt ls st n I R Q) (kf : ¬ (x ≤ y) → WP G mi d mc ms k q (pc + 3) ls st n I R Q) : WP G mi d mc ms k q pc ls (.inl y :: .inl x :: st) n I R Q := by
  intro p e s m args below meth c H locs lsA F hZ hS hV hL
  obtain ⟨hx, hb, hml, hown, hts, hr, hlk, hnm, hK, hok⟩ := id F
  exact lv_icmp_le hx hb (ztok_at hok hd) ht (fun h => kt ((z32_le hz hw).mp h) p e s m args below meth c H locs lsA F hZ hS hV hL) (fun h => kf (fun h1 => h ((z32_le hz hw).mpr h1)) p e s m args below meth c H locs lsA F hZ hS hV hL)

theorem wp_ireturn {x : Int} (hd : mi.2.2.2.2[t]? = some (pc, .ireturn, 1)) (hr0 : mi.2.2.2.1 = some .int) (hq : Q (some x) I R) : WP G mi d k q k q pc ls [.inl x] n I R Q := by
  intro p e s m args below meth c H locs lsA F hZ hS hV hL
  obtain ⟨hx, hb, hml, hown, hts, hr, hlk, hnm, hK, hok⟩ := id F
  exact W.iret (v := Int32.ofInt x) hx hb (hr.trans hr0) (fun t ht hW => ⟨⟨some x, I, R, rfl, by rw [ht, Nat.sub_self]; exact hS, hK.moved hW (by rw [ht]; exact hV.2.1), hq⟩, hV.F ht⟩) hV.2.2 (ztok_at hok hd) hlk

theorem wp_zreturn {x : Int} (hd : mi.2.2.2.2[t]? = some (pc, .ireturn, 1)) (hr0 : mi.2.2.2.1 = some .boolean) (h01 : x = 0 ∨ x = 1) (hq : Q (some x) I R) : WP G mi d k q k q pc ls [.inl x] n I R Q := by
  intro p e s m args below meth c H locs lsA F hZ hS hV hL
  obtain ⟨hx, hb, hml, hown, hts, hr, hlk, hnm, hK, hok⟩ := id F
  exact W.zret (v := Int32.ofInt x) (ty := .boolean) hx hb (hr.trans hr0) (by rcases h01 with rfl | rfl <;> decide) (fun t ht hW => ⟨⟨some x, I, R, rfl, by rw [ht, Nat.sub_self]; exact hS, hK.moved hW (by rw [ht]; exact hV.2.1), hq⟩, hV.F ht⟩) hV.2.2 (ztok_at hok hd) hlk

theorem wp_return (hd : mi.2.2.2.2[t]? = some (pc, .return_, 1)) (hr0 : mi.2.2.2.1 = none) (hq : Q none I R) : WP G mi d k q k q pc ls [] n I R Q := by
  intro p e s m args below meth c H locs lsA F hZ hS hV hL
  obtain ⟨hx, hb, hml, hown, hts, hr, hlk, hnm, hK, hok⟩ := id F
  exact W.vret hx hb (hr.trans hr0) (fun t ht hW => ⟨⟨none, I, R, rfl, by rw [ht, Nat.sub_self]; exact hS, hK.moved hW (by rw [ht]; exact hV.2.1), hq⟩, hV.F ht⟩) hV.2.2 (ztok_at hok hd) hlk

theorem wp_canon (kk : (∀ a i, zin (I a i)) → WP G mi d mc ms k q pc ls st n I R Q) : WP G mi d mc ms k q pc ls st n I R Q := fun p e s m args below meth c H locs lsA F hZ hS hV hL => kk hS.2 p e s m args below meth c H locs lsA F hZ hS hV hL

end ZR
