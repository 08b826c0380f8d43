/-! making: objects, arrays, arrays of arrays; the constructors' calls; final fields -/
def zNw (own : String) (x ci N : Nat) : Prop := ∃ (C : String) (T : u_T), vwCl[ci]? = some (C, T, N) ∧ (∀ w ∈ u_ws C T N, w ∈ wsL_law) ∧ (∃ ty0 : Nat → FieldType, ∀ k, k < N → parseFieldDescriptor (T k).2.2.1 = some (ty0 k)) ∧ Cond.classLink own x C ∈ wsL_law ∧ Cond.instantiable C N ∈ wsL_law ∧ Cond.initialized C ∈ wsL_law
def zLi (own : String) (x : Nat) (m2 : zM) (na : Nat) : Prop := Cond.methodLink own x m2.1 ∈ wsL_law ∧ Cond.instanceMethod m2.1 ∈ wsL_law ∧ Cond.initialized m2.1.cls ∈ wsL_law ∧ Cond.code m2.1 m2.2.1 m2.2.2.1 none ∈ wsL_law ∧ m2.2.2.2.1 = none ∧ m2.1.name = "<init>" ∧ m2.1.cls ≠ "java/lang/invoke/MethodHandle" ∧ m2.1.cls ≠ "java/lang/invoke/VarHandle" ∧ (parseMethodDescriptor m2.1.desc).map (fun d => d.parameters.length) = some na ∧ m2.2.2.1 ≤ 41
def zFq (ci j : Nat) (ty : FieldType) : Prop := ∀ (C : String) (T : u_T) (N : Nat), vwCl[ci]? = some (C, T, N) → (∃ ty0 : Nat → FieldType, ∀ k, k < N → parseFieldDescriptor (T k).2.2.1 = some (ty0 k)) ∧ (∀ a, a < N → ∀ b, b < N → a ≠ b → (T a).2.1 ≠ (T b).2.1) ∧ (T j).2.2.2 = true ∧ (T j).1 = C ∧ parseFieldDescriptor (T j).2.2.1 = some ty
section ZK
variable {G : zG} {mi : zM} {d mc ms k q pc t : Nat} {ls : List (Option zV)} {st : List zV} {n : Nat} {I : zMem} {R : zRef} {Q : zPo}
theorem wp_putR {x ci j o r : Nat} {ji : Int} {ty : FieldType} (hd : mi.2.2.2.2[t]? = some (pc, .putfield x, 3)) (hf : zFd mi.1.cls x ci j) (hp : zFq ci j ty) (hfit : ∀ a : Nat, narrow ty (.ref a) = .ref a ∧ fits ty (.ref a) = true) (hfr : zfr ci j = true) (hji : ((j : Nat) : Int) = ji) (ho : o < n) (hk : (zlay o).1 = ci) (hini : mi.1.name = "<init>") (hcl : ∃ T N, vwCl[ci]? = some (mi.1.cls, T, N)) (kk : WP G mi d mc ms k q (pc + 3) ls st n I (zur R o ji (some r)) Q) : WP G mi d mc ms k q pc ls (zR r :: zR o :: st) n I R Q := by
  intro p e s m args below meth c H locs lsA F hZ hS hV hL
  obtain ⟨hx, hb, hml, hown, hts, hr, hlk, hnm, hK, hok⟩ := id F
  obtain ⟨C, T, N, hc, hj, hin, hw⟩ := hf
  obtain ⟨⟨ty0, hty⟩, hnmT, hfin, hdecl, hpd⟩ := hp C T N hc
  obtain ⟨T2, N2, hc2⟩ := hcl
  have hC : C = mi.1.cls := by
    have := hc.symm.trans hc2
    cases this
    rfl
  subst hji
  refine va_putF (ref := (T j).1) hx hb hts hin ty0 hty hnmT hown hK.1 hS.1 zW_D hV o (by rw [zW_get ho, zcell_o hk hc]) hc j hj (hts _ hw) (fun _ h => h) hfin (hnm.trans hini) (hdecl.trans hC) hpd (hfit _).1 (hfit _).2 (by simpa using hj) (ztok_at hok hd) (fun H1 locs1 hP1 hD1 hV1 => ?_)
  rw [zW_set (I' := I) (R' := zur R o j (some r)) ho (by
    rw [zcell_o hk hc]
    refine congrArg (fun z => (Sum.inr (ci, z) : va_E)) (zfs_set (by rw [hfr]; show Value.ref _ = va_rf _; unfold zur; rw [if_pos ⟨rfl, rfl⟩]; rfl) (fun k9 hk9 => ?_))
    show (if zfr ci k9 = true then va_rf ((zur R o j (some r) o k9).map (G.2.1 + ·)) else _) = _
    rw [show zur R o j (some r) o k9 = R o k9 from if_neg (fun q9 => hk9 (by have := q9.2; omega))]) (fun _ _ => rfl) (fun _ h => zur_ne h)] at hP1
  exact kk p e s m args below meth c H1 locs1 lsA F hZ ⟨hP1, hS.2⟩ hV1 hL
theorem zW_at {D : va_G} {cl : List vw_C} {B cI cJ n : Nat} {I : zMem} {R : zRef} {H H1 : Heap} (hP : va_P D cl (zW B cI cJ n I R) H) (ho : ∀ q, q < H.size → H1[q]? = H[q]?) (hn : va_at D cl (B + n, zcell B cI cJ (zlay n) (I n) (R n)) H1) : va_P D cl (zW B cI cJ (n + 1) I R) H1 := by
  rw [zW_push]
  refine (hP.kept (fun k x hx => ho x.1 ((hP k x hx).lt))).app (fun k x hx => ?_)
  have hz : k < 1 := (List.getElem?_eq_some_iff.mp hx).1
  rw [show k = 0 by omega] at hx
  cases hx
  exact hn
theorem wp_newarr {len : Nat} {v : Int} (hd : mi.2.2.2.2[t]? = some (pc, .newarray .int, 2)) (hv : v = (len : Int)) (hl : len ≤ 1000) (hk : zlay n = (20, len)) (hI : ∀ j, I n j = 0) (hcs : k + 1 ≤ mc ∧ q + len ≤ ms) (kk : WP G mi d mc ms (k + 1) (q + len) (pc + 2) ls (zR n :: st) (n + 1) I R Q) : WP G mi d mc ms k q pc ls (.inl v :: st) n I R Q := by
  intro p e s m args below meth c H locs lsA F hZ hS hV hL
  obtain ⟨hx, hb, hml, hown, hts, hr, hlk, hnm, hK, hok⟩ := id F
  refine W_sized (fun hsz => ?_)
  have hsz := zsize hZ hS hV hsz
  subst hv
  have ez : ((Int32.ofInt (len : Int)).toNatClampNeg) = len := by rw [z32_nat (by omega) (by omega)]; omega
  refine va_newaK (atype := .int) (N := len) hx hb (hts _ zarrI) rfl (ztok_at hok hd) rfl (fun h => by
    have := (z32_lt0 (by unfold zin; omega)).mp h
    omega) ez (by show len * 4 ≤ _; omega) hcs.1 hcs.2 hsz (fun H1 cA e1 z1 o1 hAr hNm => ?_)
  have hcA : cA = G.2.2.2.1 := Option.some.inj (hNm.symm.trans (hK.1.2 0 _ rfl).2)
  have h := kk p e s m args below meth c H1 locs lsA F ⟨by omega, by omega⟩ ⟨zW_at hS.1 (fun q9 h9 => o1 q9 (by omega)) (by
    rw [zcell_a hk]
    show H1[G.2.1 + n]? = some (vp_cell _ _)
    rw [e1, hcA]
    refine congrArg some ?_
    refine Eq.trans ?_ (vp_cell_i _ _ _).symm
    refine congrArg (arrV _ len) (funext fun j => ?_)
    rw [hI]
    rfl), hS.2⟩ ⟨Nat.le_trans hV.1 (by omega), fun x9 h1 h2 => (o1 x9 (Nat.lt_of_lt_of_le h1 (by have := hV.1; omega))).trans (hV.2.1 x9 h1 h2), hV.2.2⟩ hL
  rw [show n + 1 + (mc - (k + 1)) = n + (mc - k) by omega] at h
  exact h
theorem wp_new {x ci N : Nat} (hd : mi.2.2.2.2[t]? = some (pc, .new x, 3)) (hl : zNw mi.1.cls x ci N) (hk : (zlay n).1 = ci) (hI : ∀ j, I n j = 0) (hR : ∀ j, R n j = none) (hdf : ∀ (C : String) (T : u_T), vwCl[ci]? = some (C, T, N) → ∀ j, j < N → ∀ ty, parseFieldDescriptor (T j).2.2.1 = some ty → defaultValue ty = if zfr ci j then .null else .int 0) (hcs : k + 1 ≤ mc ∧ q + N ≤ ms) (kk : WP G mi d mc ms (k + 1) (q + N) (pc + 3) ls (zR n :: st) (n + 1) I R Q) : WP G mi d mc ms k q pc ls st n I R Q := by
  intro p e s m args below meth c H locs lsA F hZ hS hV hL
  obtain ⟨hx, hb, hml, hown, hts, hr, hlk, hnm, hK, hok⟩ := id F
  obtain ⟨C, T, hc, hin, ⟨ty0, hty⟩, l1, l2, l3⟩ := hl
  refine W_sized (fun hsz => ?_)
  have hsz := zsize hZ hS hV hsz
  have hKn := hK.1.1 ci _ hc
  refine W.newcK hx hb hown (hts _ l1) (hts _ l2) (hts _ l3) rfl (ztok_at hok hd) hcs.1 hcs.2 hKn.2.1 hsz (fun H1 kC hkC e1 z1 o1 => ?_)
  have h := kk p e s m args below meth c H1 locs lsA F ⟨by omega, by omega⟩ ⟨zW_at hS.1 (fun q9 h9 => o1 q9 (by omega)) (by
    rw [zcell_o hk hc]
    refine ⟨_, hc, (u_born ty0 hts hin hKn hkC e1 hty).to (fun j hj => ?_)⟩
    show defaultValue (ty0 j) = List.getD _ _ _
    rw [List.getD_eq_getElem?_getD, zfs_get hj, hI, hR, hdf C T hc j hj _ (hty j hj)]
    rfl), hS.2⟩ ⟨Nat.le_trans hV.1 (by omega), fun x9 h1 h2 => (o1 x9 (Nat.lt_of_lt_of_le h1 (by have := hV.1; omega))).trans (hV.2.1 x9 h1 h2), hV.2.2⟩ hL
  rw [show n + 1 + (mc - (k + 1)) = n + (mc - k) by omega] at h
  exact h
theorem wp_init {x o na mc2 ms2 : Nat} {m2 : zM} {As rest : List zV} {P : zMem → zRef → Prop} (hM : MT G m2 d mc2 ms2 (zR o :: As) n I R (zP0 P)) (hd : mi.2.2.2.2[t]? = some (pc, .invokespecial x, 3)) (hl : zLi mi.1.cls x m2 na) (hn : As.length = na) (hst : st = As.reverse ++ zR o :: rest) (hr : rest.length ≤ 4) (hcs : k + mc2 ≤ mc ∧ q + ms2 ≤ ms)
    (kk : ∀ I' R', P I' R' → WP G mi (d + 1) mc ms (k + mc2) (q + ms2) (pc + 3) ls rest (n + mc2) I' R' Q) : WP G mi (d + 1) mc ms k q pc ls st n I R Q := by
  intro p e s m args below meth c H locs lsA F hZ hS hV hL
  obtain ⟨hx, hb, hml, hown, hts, hr2, hlk, hnm, hK, hok⟩ := id F
  obtain ⟨l1, l2, l3, l4, l5, l6, l7, l8, l9, l10⟩ := hl
  refine W_sized (fun hsz => ?_)
  have hsz := zsize hZ hS hV hsz
  have hws : zws m2 = Cond.code m2.1 m2.2.1 m2.2.2.1 none :: wsL_law := by unfold zws; rw [l5]
  have hG : GoodIn wsL_law (zws m2) := by
    intro w hw
    rw [hws] at hw
    rcases List.mem_cons.mp hw with rfl | hw
    · exact zgood l4
    · exact zgood hw
  refine zback (m2 := m2) (x := x) (na := na) (av := []) (g := F0 m pc lsA []) F hZ hV hL hcs.1 (va_runI (As := As.map (zc G.2.1)) (b := G.2.1 + o) (n := na) (rm := zrm d mc2 ms2) ⟨hx, hb, hml, hown, hts⟩ hM (cwI na hts hG hws rfl rfl (hts _ l3) (hts _ l1) (hts _ l2) l6 ⟨l7, l8, l9⟩ ⟨Nat.le_refl _, by show 8 + (m2.2.2.1 + 11) + 60 * d ≤ 60 * (d + 1); omega⟩) ⟨zpre_blind, fun U hU hW => ⟨rfl, by rw [hU]; exact hsz, by rw [hU]; exact hS, hK.moved hW (by rw [hU]; exact hV.2.1)⟩⟩ rfl (by rw [List.length_map]; exact hn) (hL.1) ?_ (lv_room (Nat.le_trans (zcats rest) (by omega))) (ztok_at hok hd) hcs) (fun r I' R' h => by
    obtain ⟨rfl, h⟩ := h
    exact kk I' R' h)
  show st.map (zc G.2.1) = _
  rw [hst, List.map_append, List.map_reverse]
  rfl
end ZK
