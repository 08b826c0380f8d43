/-! calls by what they answer; switches; small tools -/
def zP1 (P : Int → zMem → zRef → Prop) : zPo := fun r I R => ∃ x, r = some x ∧ P x I R
def zP0 (P : zMem → zRef → Prop) : zPo := fun r I R => r = none ∧ P I R
section ZC
variable {G : zG} {mi : zM} {d mc ms k q pc t : Nat} {ls : List (Option zV)} {st : List zV} {n : Nat} {I : zMem} {R : zRef} {Q : zPo}
theorem wp_vi {x o na ci : Nat} {m2 : zM} {As rest : List zV} {P : Int → zMem → zRef → Prop} (hM : MT G m2 d 0 0 (zR o :: As) n I R (zP1 P)) (hd : mi.2.2.2.2[t]? = some (pc, .invokevirtual x, 3)) (hl : zLk mi.1.cls x m2 na) (hn : As.length = na) (hst : st = As.reverse ++ zR o :: rest) (ho : o < n) (hk : (zlay o).1 = ci) (hci : ∃ T N, vwCl[ci]? = some (m2.1.cls, T, N)) (hr : rest.length ≤ 4) (hcs : k ≤ mc ∧ q ≤ ms)
    (kk : ∀ r I' R', P r I' R' → WP G mi (d + 1) mc ms k q (pc + 3) ls (.inl r :: rest) n I' R' Q) : WP G mi (d + 1) mc ms k q pc ls st n I R Q :=
  wp_callV hd hl hn hst ho hk hci hr hcs hM (fun r I' R' h => by
    obtain ⟨y, rfl, h⟩ := h
    exact kk y I' R' h)
theorem wp_vv {x o na ci : Nat} {m2 : zM} {As rest : List zV} {P : zMem → zRef → Prop} (hM : MT G m2 d 0 0 (zR o :: As) n I R (zP0 P)) (hd : mi.2.2.2.2[t]? = some (pc, .invokevirtual x, 3)) (hl : zLk mi.1.cls x m2 na) (hn : As.length = na) (hst : st = As.reverse ++ zR o :: rest) (ho : o < n) (hk : (zlay o).1 = ci) (hci : ∃ T N, vwCl[ci]? = some (m2.1.cls, T, N)) (hr : rest.length ≤ 4) (hcs : k ≤ mc ∧ q ≤ ms)
    (kk : ∀ I' R', P I' R' → WP G mi (d + 1) mc ms k q (pc + 3) ls rest n I' R' Q) : WP G mi (d + 1) mc ms k q pc ls st n I R Q :=
  wp_callV hd hl hn hst ho hk hci hr hcs hM (fun r I' R' h => by
    obtain ⟨rfl, h⟩ := h
    exact kk I' R' h)
theorem wp_si {x na : Nat} {m2 : zM} {As rest : List zV} {P : Int → zMem → zRef → Prop} (hM : MT G m2 d 0 0 As n I R (zP1 P)) (hd : mi.2.2.2.2[t]? = some (pc, .invokestatic x, 3)) (hl : zLs mi.1.cls x m2 na) (hn : As.length = na) (hst : st = As.reverse ++ rest) (hr : rest.length ≤ 4) (hcs : k ≤ mc ∧ q ≤ ms)
    (kk : ∀ r I' R', P r I' R' → WP G mi (d + 1) mc ms k q (pc + 3) ls (.inl r :: rest) n I' R' Q) : WP G mi (d + 1) mc ms k q pc ls st n I R Q :=
  wp_callS hd hl hn hst hr hcs hM (fun r I' R' h => by
    obtain ⟨y, rfl, h⟩ := h
    exact kk y I' R' h)
theorem wp_sv {x na : Nat} {m2 : zM} {As rest : List zV} {P : zMem → zRef → Prop} (hM : MT G m2 d 0 0 As n I R (zP0 P)) (hd : mi.2.2.2.2[t]? = some (pc, .invokestatic x, 3)) (hl : zLs mi.1.cls x m2 na) (hn : As.length = na) (hst : st = As.reverse ++ rest) (hr : rest.length ≤ 4) (hcs : k ≤ mc ∧ q ≤ ms)
    (kk : ∀ I' R', P I' R' → WP G mi (d + 1) mc ms k q (pc + 3) ls rest n I' R' Q) : WP G mi (d + 1) mc ms k q pc ls st n I R Q :=
  wp_callS hd hl hn hst hr hcs hM (fun r I' R' h => by
    obtain ⟨rfl, h⟩ := h
    exact kk I' R' h)
theorem wp_top {x : Int} (kk : ∀ y, y = x → WP G mi d mc ms k q pc ls (.inl y :: st) n I R Q) : WP G mi d mc ms k q pc ls (.inl x :: st) n I R Q := kk x rfl
theorem wp_tin {x : Int} (i : Int) {dflt lo hi off : Int} {offs : Array Int} {len tgt : Nat} (hd : mi.2.2.2.2[t]? = some (pc, .tableswitch dflt lo hi offs, len)) (hxi : x = i) (hz : zin x) (h1 : lo ≤ i) (h2 : i ≤ hi) (ho : offs[(i - lo).toNat]? = some off) (ht : (pc : Int) + off = (tgt : Int)) (kk : WP G mi d mc ms k q tgt ls st n I R Q) : WP G mi d mc ms k q pc ls (.inl x :: st) n I R Q := by
  intro p e s m args below meth c H locs lsA F hZ hS hV hL
  obtain ⟨hx, hb, hml, hown, hts, hr, hlk, hnm, hK, hok⟩ := id F
  subst hxi
  exact lv_tableIn hx hb (ztok_at hok hd) (by rw [z32 hz]; omega) (by rw [z32 hz]; omega) (by rw [z32 hz]; exact ho) ht (kk p e s m args below meth c H locs lsA F hZ hS hV hL)
theorem wp_tout {x : Int} {dflt lo hi : Int} {offs : Array Int} {len tgt : Nat} (hd : mi.2.2.2.2[t]? = some (pc, .tableswitch dflt lo hi offs, len)) (hz : zin x) (h : x < lo ∨ hi < x) (ht : (pc : Int) + dflt = (tgt : Int)) (kk : WP G mi d mc ms k q tgt ls st n I R Q) : WP G mi d mc ms k q pc ls (.inl x :: st) n I R Q := by
  intro p e s m args below meth c H locs lsA F hZ hS hV hL
  obtain ⟨hx, hb, hml, hown, hts, hr, hlk, hnm, hK, hok⟩ := id F
  exact lv_tableOut hx hb (ztok_at hok hd) (by rw [z32 hz]; exact h) ht (kk p e s m args below meth c H locs lsA F hZ hS hV hL)
theorem wp_look {x : Int} {dflt off : Int} {ps : Array (Int × Int)} {len tgt : Nat} (hd : mi.2.2.2.2[t]? = some (pc, .lookupswitch dflt ps, len)) (hz : zin x) (hp : (ps.toList.zip (ps.toList.drop 1)).all (fun (a, next) => a.1 < next.1) = true) (ho : Op.lookupswitch.offset ps.toList dflt x = off) (ht : (pc : Int) + off = (tgt : Int)) (kk : WP G mi d mc ms k q tgt ls st n I R Q) : WP G mi d mc ms k q pc ls (.inl x :: st) n I R Q := by
  intro p e s m args below meth c H locs lsA F hZ hS hV hL
  obtain ⟨hx, hb, hml, hown, hts, hr, hlk, hnm, hK, hok⟩ := id F
  exact lv_lookup hx hb (ztok_at hok hd) hp (by rw [z32 hz]; exact ho) ht (kk p e s m args below meth c H locs lsA F hZ hS hV hL)
theorem wp_ls {ls' : List (Option zV)} (h : ls = ls') (kk : WP G mi d mc ms k q pc ls' st n I R Q) : WP G mi d mc ms k q pc ls st n I R Q := h ▸ kk
end ZC
theorem zu_eq {I : zMem} {a : Nat} {i v : Int} : zu I a i v a i = v := if_pos ⟨rfl, rfl⟩
theorem zu_na {I : zMem} {a b : Nat} {i j v : Int} (h : b ≠ a) : zu I a i v b j = I b j := if_neg (fun q => h q.1)
theorem zu_ni {I : zMem} {a b : Nat} {i j v : Int} (h : j ≠ i) : zu I a i v b j = I b j := if_neg (fun q => h q.2)
theorem zin_and (x y : Int) : zin (ziand x y) := zin_of _
theorem zin_or (x y : Int) : zin (zior x y) := zin_of _
theorem zin_xor (x y : Int) : zin (zixor x y) := zin_of _
theorem zin_shl (x y : Int) : zin (zishl x y) := zin_of _
theorem zin_shr (x y : Int) : zin (zishr x y) := zin_of _
theorem zin_le {x : Int} (h0 : -2147483648 ≤ x) (h1 : x ≤ 2147483647) : zin x := ⟨h0, by omega⟩
theorem zur_canon_R {R : zRef} {a b : Nat} {i j : Int} {v : Option Nat} (h : b ≠ a ∨ j ≠ i) : zur R a i v b j = R b j := if_neg (fun q => by rcases h with h | h; exact h q.1; exact h q.2)
theorem zur_eq {R : zRef} {a : Nat} {i : Int} {v : Option Nat} : zur R a i v a i = v := if_pos ⟨rfl, rfl⟩
theorem zWir_shelf {N a : Nat} {R : zRef} {i : Int} {v : Option Nat} (h : zWir N R) (ha : a = 96 ∨ a = 106) : zWir N (zur R a i v) := by
  intro b j r hb hr
  have : b ≠ a := by
    rintro rfl
    rcases ha with rfl | rfl
    · cases j with
      | ofNat k => cases hr
      | negSucc k => cases hr
    · cases j with
      | ofNat k => cases hr
      | negSucc k => cases hr
  rw [zur_canon_R (Or.inl this)]
  exact h b j r hb hr
theorem zasg (vm : Vm) (c : ClassId) : vm.assignable c c = true := by
  have h : ∀ n : Nat, vm.assignableAux (n + 1) c c = true := fun n => by
    unfold Vm.assignableAux
    simp only [BEq.rfl, Bool.true_or]
  exact h 255
theorem zAA {G : zG} {s : State} (h : zKn G s) : ∃ kA kC : Class, s.vm.classes[G.2.2.2.2]? = some kA ∧ kA.kind = .array G.2.2.2.1 (.array .int) ∧ s.vm.classes[G.2.2.2.1]? = some kC := by
  obtain ⟨hK, hA, -⟩ := h
  obtain ⟨comp, c9, k9, h1, h2, h3, h4⟩ := Cond.arrayOver_specA (show (Cond.arrayOver (.array .int)).holds #[] s none s [] = true from hA)
  have g0 : s.vm.findClass ("[" ++ FieldType.int.toString) = some G.2.2.2.1 := (hK.2 0 _ rfl).2
  have g1 : s.vm.findClass ("[" ++ (FieldType.array .int).toString) = some G.2.2.2.2 := (hK.2 1 _ rfl).2
  have e1 : c9 = G.2.2.2.2 := Option.some.inj (h4.symm.trans g1)
  have e2 : comp = G.2.2.2.1 := Option.some.inj (h1.symm.trans g0)
  subst e1
  subst e2
  obtain ⟨-, k0, hk0, -⟩ := (hK.2 0 _ rfl).1 0 (fun _ => .int 0)
  exact ⟨k9, k0, h2, h3, hk0⟩
section ZA
variable {G : zG} {mi : zM} {d mc ms k q pc t : Nat} {ls : List (Option zV)} {st : List zV} {n : Nat} {I : zMem} {R : zRef} {Q : zPo}
theorem wp_aastore {a v len lv : Nat} {i : Int} (hd : mi.2.2.2.2[t]? = some (pc, .aastore, 1)) (ha : a < n) (hk : zlay a = (21, len)) (hv : v < n) (hkv : zlay v = (20, lv)) (h0 : 0 ≤ i) (h1 : i < len) (hl : len < 2147483648) (kk : WP G mi d mc ms k q (pc + 1) ls st n I (zur R a i (some v)) Q) : WP G mi d mc ms k q pc ls (zR v :: .inl i :: zR a :: st) n I R Q := by
  intro p e s m args below meth c H locs lsA F hZ hS hV hL
  obtain ⟨hx, hb, hml, hown, hts, hr, hlk, hnm, hK, hok⟩ := id F
  have hin := zvp_in h0 h1 hl
  have hlt : (Int32.ofInt i).toNatClampNeg < len := Nat.not_le.mp fun q => hin (Or.inr q)
  have hn0 : ¬ Int32.ofInt i < 0 := fun q => hin (Or.inl q)
  obtain ⟨kA, kC, k1, k2, k3⟩ := zAA hK
  have he : (zW G.2.1 G.2.2.2.1 G.2.2.2.2 n I R)[a]? = some (G.2.1 + a, .inl (G.2.2.2.2, len, .inr (.inr (.inr (.inr (fun j : Nat => (R a j).map (G.2.1 + ·))))))) := by rw [zW_get ha, zcell_A hk]
  have he2 : (zW G.2.1 G.2.2.2.1 G.2.2.2.2 n I R)[v]? = some (G.2.1 + v, .inl (G.2.2.2.1, lv, .inl (fun j => Int32.ofInt (I v j)))) := by rw [zW_get hv, zcell_a hkv]
  refine W.aast hx hb (hS.1 a _ he) (fun q h => by cases h) (fun h => by cases h) k1 k2 rfl k3 ⟨hn0, by show _ < (arrV _ _ _).slots.size; rw [arrV_size]; exact hlt⟩ (hS.1 v _ he2) (fun q h => by cases h) k3 (zasg s.vm G.2.2.2.1) rfl rfl (ztok_at hok hd) (fun H1 e1 z oq => ?_)
  have hP1 : va_P G.2.2.1 vwCl ((zW G.2.1 G.2.2.2.1 G.2.2.2.2 n I R).set a (G.2.1 + a, .inl (G.2.2.2.2, len, .inr (.inr (.inr (.inr (va_up (fun j : Nat => (R a j).map (G.2.1 + ·)) (Int32.ofInt i).toNatClampNeg (some (G.2.1 + v))))))))) H1 := by
    refine hS.1.set (A := fun x => G.2.1 ≤ x) zW_D he ?_ oq
    show H1[G.2.1 + a]? = some (vp_cell _ _)
    rw [e1]
    rw [vp_cell_q, vp_cell_q, arrV_store]
    congr 2
    funext q
    by_cases hq : q = (Int32.ofInt i).toNatClampNeg
    · subst hq
      simp [updV, va_up, va_rf]
    · simp [updV, va_up, hq]
  rw [zW_set (I' := I) (R' := zur R a i (some v)) ha (by
    rw [zcell_A hk]
    refine congrArg (fun z => (Sum.inl (G.2.2.2.2, len, Sum.inr (Sum.inr (Sum.inr (Sum.inr z)))) : va_E)) (funext fun j => ?_)
    rw [z32_nat h0 (by omega)]
    unfold va_up zur
    by_cases hj : j = i.toNat
    · rw [if_pos hj, if_pos ⟨rfl, by omega⟩]
      rfl
    · rw [if_neg hj, if_neg (fun q9 => hj (by have := q9.2; omega))]) (fun _ _ => rfl) (fun _ h => zur_ne h)] at hP1
  exact kk p e s m args below meth c H1 _ lsA F hZ ⟨hP1, hS.2⟩ (hV.put z oq (Nat.le_add_right _ _)) hL
end ZA
