/-! references set one by one; arrays of arrays -/
def zlk : List (Nat × Int × Nat) → Nat → Int → Option Nat
  | [], _, _ => none
  | (a, i, v) :: L, b, j => if b = a ∧ j = i then some v else zlk L b j
def zapp (R : zRef) (L : List (Nat × Int × Nat)) : zRef := fun b j => match zlk L b j with
  | some v => some v
  | none => R b j
theorem zapp_nil (R : zRef) : zapp R [] = R := rfl
theorem zapp_cons (R : zRef) (L : List (Nat × Int × Nat)) (a : Nat) (i : Int) (v : Nat) : zur (zapp R L) a i (some v) = zapp R ((a, i, v) :: L) := by
  funext b j
  unfold zur zapp
  by_cases h : b = a ∧ j = i
  · rw [if_pos h, show zlk ((a, i, v) :: L) b j = some v from if_pos h]
  · rw [if_neg h, show zlk ((a, i, v) :: L) b j = zlk L b j from if_neg h]
theorem zapp_get {R : zRef} {L : List (Nat × Int × Nat)} {b : Nat} {j : Int} {v : Nat} (h : zlk L b j = some v) : zapp R L b j = some v := by
  unfold zapp
  rw [h]
theorem zlk_none {L : List (Nat × Int × Nat)} {b : Nat} (h : ∀ x ∈ L, x.1 ≠ b) (j : Int) : zlk L b j = none := by
  induction L with
  | nil => rfl
  | cons x L ih =>
    show (if b = x.1 ∧ j = x.2.1 then some x.2.2 else zlk L b j) = none
    rw [if_neg (fun q => h x List.mem_cons_self q.1.symm)]
    exact ih (fun y hy => h y (List.mem_cons_of_mem _ hy))
theorem zapp_none {R : zRef} {L : List (Nat × Int × Nat)} {b : Nat} (h : L.all (fun x => x.1 != b) = true) (h0 : ∀ j, R b j = none) (j : Int) : zapp R L b j = none := by
  unfold zapp
  rw [zlk_none (fun x hx => by have := List.all_eq_true.mp h x hx; simpa using this)]
  exact h0 j
theorem zapp_out {R : zRef} {L : List (Nat × Int × Nat)} {b : Nat} (h : ∀ x ∈ L, x.1 ≠ b) : zapp R L b = R b := by
  funext j
  unfold zapp
  rw [zlk_none h]
theorem zapp_app (R : zRef) (L1 L2 : List (Nat × Int × Nat)) : zapp (zapp R L1) L2 = zapp R (L2 ++ L1) := by
  funext b j
  have h : zlk (L2 ++ L1) b j = (match zlk L2 b j with | some v => some v | none => zlk L1 b j) := by
    induction L2 with
    | nil => rfl
    | cons x L ih =>
      show (if b = x.1 ∧ j = x.2.1 then some x.2.2 else zlk (L ++ L1) b j) = _
      show _ = (match (if b = x.1 ∧ j = x.2.1 then some x.2.2 else zlk L b j) with | some v => some v | none => zlk L1 b j)
      by_cases q : b = x.1 ∧ j = x.2.1
      · rw [if_pos q, if_pos q]
      · rw [if_neg q, if_neg q]
        exact ih
  unfold zapp
  rw [h]
  cases zlk L2 b j <;> rfl
section ZJ
variable {G : zG} {mi : zM} {d mc ms k q pc t : Nat} {ls : List (Option zV)} {st : List zV} {n : Nat} {I : zMem} {R : zRef} {Q : zPo} {L : List (Nat × Int × Nat)}
theorem wp_R0 (kk : WP G mi d mc ms k q pc ls st n I (zapp R []) Q) : WP G mi d mc ms k q pc ls st n I R Q := kk
theorem wp_putL {x ci j o r : Nat} {ji : Int} {ty : FieldType} (hd : mi.2.2.2.2[t]? = some (pc, .putfield x, 3)) (hf : zFd mi.1.cls x ci j) (hp : zFq ci j ty) (hfit : ∀ a : Nat, narrow ty (.ref a) = .ref a ∧ fits ty (.ref a) = true) (hfr : zfr ci j = true) (hji : ((j : Nat) : Int) = ji) (ho : o < n) (hk : (zlay o).1 = ci) (hini : mi.1.name = "<init>") (hcl : ∃ T N, vwCl[ci]? = some (mi.1.cls, T, N)) (kk : WP G mi d mc ms k q (pc + 3) ls st n I (zapp R ((o, ji, r) :: L)) Q) : WP G mi d mc ms k q pc ls (zR r :: zR o :: st) n I (zapp R L) Q := by
  refine wp_putR hd hf hp hfit hfr hji ho hk hini hcl ?_
  rw [zapp_cons]
  exact kk
def zrow (n N : Nat) : List (Nat × Int × Nat) := (List.range N).map (fun (i : Nat) => (n, (i : Int), n + 1 + i))
theorem zrow_in {n : Nat} : ∀ (N : Nat) (L : List (Nat × Int × Nat)), (∀ x ∈ L, x.1 ≠ n) → ∀ j : Nat, zlk (zrow n N ++ L) n (j : Int) = if j < N then some (n + 1 + j) else none := by
  intro N L hL j
  unfold zrow
  have key : ∀ (M : List Nat), zlk (M.map (fun (i : Nat) => (n, (i : Int), n + 1 + i)) ++ L) n (j : Int) = if j ∈ M then some (n + 1 + j) else none := by
    intro M
    induction M with
    | nil =>
      rw [if_neg (by simp)]
      exact zlk_none hL _
    | cons i M ih =>
      show (if n = n ∧ (j : Int) = (i : Int) then some (n + 1 + i) else zlk (M.map (fun (i : Nat) => (n, (i : Int), n + 1 + i)) ++ L) n (j : Int)) = _
      by_cases e : j = i
      · rw [if_pos ⟨rfl, by omega⟩, if_pos (by rw [e]; exact List.mem_cons_self), e]
      · rw [if_neg (fun q => e (by have := q.2; omega)), ih]
        by_cases h : j ∈ M
        · rw [if_pos h, if_pos (List.mem_cons_of_mem _ h)]
        · rw [if_neg h, if_neg (fun q => by rcases List.mem_cons.mp q with q | q; exact e q; exact h q)]
  rw [key]
  by_cases h : j < N
  · rw [if_pos h, if_pos (List.mem_range.mpr h)]
  · rw [if_neg h, if_neg (fun q => h (List.mem_range.mp q))]
theorem zrow_out {n N : Nat} {L : List (Nat × Int × Nat)} {b : Nat} (hb : b ≠ n) (j : Int) : zlk (zrow n N ++ L) b j = zlk L b j := by
  unfold zrow
  generalize List.range N = M
  induction M with
  | nil => rfl
  | cons i M ih =>
    show (if b = n ∧ _ then _ else zlk (M.map (fun (i : Nat) => (n, (i : Int), n + 1 + i)) ++ L) b j) = _
    rw [if_neg (fun q => hb q.1)]
    exact ih
theorem wp_mna {x N' K' : Nat} {u v : Int} (hd : mi.2.2.2.2[t]? = some (pc, .multianewarray x 2, 4)) (hl : Cond.classLink mi.1.cls x ("[" ++ (FieldType.array .int).toString) ∈ wsL_law) (hu : u = (N' : Int)) (hv : v = (K' : Int)) (hN : N' ≤ 100) (hK9 : K' ≤ 100) (hk : zlay n = (21, N')) (hk2 : ∀ i, i < N' → zlay (n + 1 + i) = (20, K')) (hI : ∀ b, n ≤ b → ∀ j, I b j = 0) (hLn : ∀ y ∈ L, y.1 < n) (hR : ∀ j, R n j = none) (hcs : k + (1 + N') ≤ mc ∧ q + (N' + N' * K') ≤ ms)
    (kk : WP G mi d mc ms (k + 1 + N') (q + N' + N' * K') (pc + 4) ls (zR n :: st) (n + 1 + N') I (zapp R (zrow n N' ++ L)) Q) : WP G mi d mc ms k q pc ls (.inl v :: .inl u :: st) n I (zapp R L) Q := by
  intro p e s m args below meth c H locs lsA F hZ hS hV hL
  obtain ⟨hx, hb, hml, hown, hts, hr, hlk, hnm, hK, hok⟩ := id F
  refine W_sized (fun hsz => ?_)
  have hsz := zsize hZ hS hV hsz
  subst hu
  subst hv
  have eN : (Int32.ofInt (N' : Int)).toNatClampNeg = N' := by rw [z32_nat (by omega) (by omega)]; omega
  have eK : (Int32.ofInt (K' : Int)).toNatClampNeg = K' := by rw [z32_nat (by omega) (by omega)]; omega
  have nz : ∀ z : Int, 0 ≤ z → z < 2147483648 → ¬ Int32.ofInt z < 0 := fun z h0 h1 h => by
    have := (z32_lt0 (by unfold zin; omega)).mp h
    omega
  have g0 : s.vm.findClass (FieldType.array .int).toString = some G.2.2.2.1 := (hK.1.2 0 _ rfl).2
  have g1 : s.vm.findClass ("[" ++ (FieldType.array .int).toString) = some G.2.2.2.2 := (hK.1.2 1 _ rfl).2
  intro T hT Xs
  obtain ⟨vm₁, cA, comp, -, fA, fC, hO, -, X', step⟩ := Xs.multianewarray2F hx hown (hts _ hl) (va_AOA.use hK.2.1) (hts _ zarrI) (g := F0 m pc lsA (.int (Int32.ofInt (K' : Int)) :: .int (Int32.ofInt (N' : Int)) :: st.map (zc G.2.1))) rfl (by rw [hb]; exact ztok_at hok hd) rfl (nz _ (by omega) (by omega)) (nz _ (by omega) (by omega)) (by rw [eN]; omega) (by rw [eK]; show K' * 4 ≤ _; omega) (by rw [eK]; omega) (by rfl) (by rfl) (by rw [eN]; exact hcs.1) (by rw [eN, eK]; exact hcs.2)
  have ec : comp = G.2.2.2.1 := Option.some.inj (fC.symm.trans g0)
  have eA : cA = G.2.2.2.2 := Option.some.inj (fA.symm.trans g1)
  subst ec
  subst eA
  rw [eN, eK] at X' step
  generalize hF : Jvm.Free.Multi.fill (T.setVm vm₁) G.2.2.2.2 G.2.2.2.1 N' K' (defaultValue .int) N' = F9 at X' step
  have hTh : (T.setVm vm₁).heap = H := hT
  obtain ⟨f1, f2, -, -⟩ := Jvm.Free.Multi.fill_facts (T.setVm vm₁) G.2.2.2.2 G.2.2.2.1 N' K' (defaultValue .int) N'
  rw [hF, hTh] at f1 f2
  rw [vr_outer] at f2
  have hold : ∀ x : Nat, x < H.size → F9.heap[x]? = H[x]? := fun x hx => by
    have := Jvm.Free.Multi.fill_old (T.setVm vm₁) G.2.2.2.2 G.2.2.2.1 N' K' (defaultValue .int) (a := x) (by rw [hTh]; exact hx) N'
    rw [hF, hTh] at this
    exact this
  have hrow : ∀ j : Nat, j < N' → F9.heap[H.size + 1 + j]? = some (arrV G.2.2.2.1 K' (fun _ => .int 0)) := fun j hj => by
    have := Jvm.Free.Multi.fill_inner (T.setVm vm₁) G.2.2.2.2 G.2.2.2.1 N' K' (defaultValue .int) N' j hj
    rw [hF, hTh] at this
    rw [this]
    refine congrArg some ?_
    rw [← arrV_new]
    rfl
  have hRn : ∀ j : Nat, zapp R (zrow n N' ++ L) n (j : Int) = if j < N' then some (n + 1 + j) else none := fun j => by
    unfold zapp
    rw [zrow_in N' L (fun x hx => by have := hLn x hx; omega)]
    by_cases hj : j < N'
    · rw [if_pos hj]
    · rw [if_neg hj]
      exact hR _
  have hRo : ∀ b : Nat, b ≠ n → zapp R (zrow n N' ++ L) b = zapp R L b := fun b hb => by
    funext j
    unfold zapp
    rw [zrow_out hb]
  -- the world grows cell by cell
  have h0 : va_P G.2.2.1 vwCl (zW G.2.1 G.2.2.2.1 G.2.2.2.2 n I (zapp R (zrow n N' ++ L))) F9.heap := by
    intro k9 x hx
    have hn9 : k9 < n := by
      have := (List.getElem?_eq_some_iff.mp hx).1
      unfold zW at this
      simpa using this
    have hx2 : (zW G.2.1 G.2.2.2.1 G.2.2.2.2 n I (zapp R L))[k9]? = some x := by
      rw [zW_get hn9] at hx ⊢
      rw [hRo k9 (by omega)] at hx
      exact hx
    have w := hS.1 k9 x hx2
    exact w.kept (hold x.1 w.lt)
  have h1 : va_P G.2.2.1 vwCl (zW G.2.1 G.2.2.2.1 G.2.2.2.2 (n + 1) I (zapp R (zrow n N' ++ L))) F9.heap := by
    refine zW_at h0 (fun _ _ => rfl) ?_
    rw [zcell_A hk]
    show F9.heap[G.2.1 + n]? = some (vp_cell _ _)
    rw [← hsz, f2]
    refine congrArg some (Eq.trans ?_ (vp_cell_q _ _ _).symm)
    refine congrArg (arrV _ N') (funext fun j => ?_)
    rw [hRn j]
    by_cases hj : j < N'
    · rw [if_pos hj, if_pos hj]
      show va_rf (some _) = va_rf (some _)
      rw [show H.size + 1 + j = G.2.1 + (n + 1 + j) by omega]
    · rw [if_neg hj, if_neg hj]
      rfl
  have h2 : ∀ i : Nat, i ≤ N' → va_P G.2.2.1 vwCl (zW G.2.1 G.2.2.2.1 G.2.2.2.2 (n + 1 + i) I (zapp R (zrow n N' ++ L))) F9.heap := by
    intro i
    induction i with
    | zero => exact fun _ => h1
    | succ i ih =>
      intro hi
      refine zW_at (n := n + 1 + i) (ih (by omega)) (fun _ _ => rfl) ?_
      rw [zcell_a (hk2 i (by omega))]
      show F9.heap[G.2.1 + (n + 1 + i)]? = some (vp_cell _ _)
      rw [show G.2.1 + (n + 1 + i) = H.size + 1 + i by omega, hrow i (by omega)]
      refine congrArg some (Eq.trans ?_ (vp_cell_i _ _ _).symm)
      refine congrArg (arrV _ K') (funext fun j => ?_)
      rw [hI _ (by omega)]
      rfl
  have h := kk p e s m args below meth c F9.heap locs lsA F ⟨by omega, by omega⟩ ⟨h2 N' (Nat.le_refl _), hS.2⟩ ⟨by rw [f1]; have := hV.1; omega, fun x9 a1 a2 => (hold x9 (Nat.lt_of_lt_of_le a1 hV.1)).trans (hV.2.1 x9 a1 a2), hV.2.2⟩ hL
  rw [show n + 1 + N' + (mc - (k + 1 + N')) = n + (mc - k) by omega] at h
  obtain ⟨t9, a1, b1⟩ := h F9 rfl (by first | exact X' | (rw [show k + 1 + N' = k + (1 + N') by omega, show q + N' + N' * K' = q + (N' + N' * K') by omega]; exact X'))
  refine ⟨t9, step t9 ?_, b1⟩
  have e9 : T.heap.size = G.2.1 + n := by rw [hT]; exact hsz
  rw [e9]
  exact a1
end ZJ
theorem wp_tagR {G : zG} {mi : zM} {d mc ms k q pc : Nat} {ls : List (Option zV)} {st : List zV} {n : Nat} {I : zMem} {R : zRef} {Q : zPo} {L : List (Nat × Int × Nat)} (kk : ∀ L', L = L' → WP G mi d mc ms k q pc ls st n I (zapp R L') Q) : WP G mi d mc ms k q pc ls st n I (zapp R L) Q := kk L rfl
