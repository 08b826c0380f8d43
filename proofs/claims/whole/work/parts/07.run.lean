/-! calls by what they answer; switches; small tools -/
def zP1 (P : Int → zMem → zRef → Prop) : zPo := fun r I R => ∃ x, r = some x ∧ P x I R
def zP0 (P : zMem → zRef → Prop) : zPo := fun r I R => r = none ∧ P I R
section ZC
variable {G : zG} {mi : zM} {d mc ms k q pc t : Nat} {ls : List (Option zV)} {st : List zV} {n : Nat} {I : zMem} {R : zRef} {Q : zPo}
theorem wp_vi {x o na ci : Nat} {m2 : zM} {As rest : List zV} {P : Int → zMem → zRef → Prop} (hM : MT G m2 d 0 0 (zR o :: As) n I R (zP1 P)) (hd : mi.2.2.2.2[t]? = some (pc, .invokevirtual x, 3)) (hl : zLk mi.1.cls x m2 na) (hn : As.length = na) (hst : st = As.reverse ++ zR o :: rest) (ho : o < n) (hk : (zlay o).1 = ci) (hci : ∃ T N, vwCl[ci]? = some (m2.1.cls, T, N)) (hr : rest.length ≤ 4) (hcs : k ≤ mc ∧ q ≤ ms)
    (kk : ∀ r I' R', P r I' R' → WP G mi (d + 1) mc ms k q (pc + 3) ls (.inl r :: rest) n I' R' Q) : WP G mi (d + 1) mc ms k q pc ls st n I R Q :=
  wp_callV hd hl hn hst ho hk hci hr hcs hM (fun r I' R' h => by
    obtain ⟨y, rfl, h⟩ := h
    exact kk y I' R' h)
theorem wp_vv {x o na ci : Nat} {m2 : zM} {As rest : List zV} {P : zMem → zRef → Prop} (hM : MT G m2 d 0 0 (zR o :: As) n I R (zP0 P)) (hd : mi.2.2.2.2[t]? = some (pc, .invokevirtual x, 3)) (hl : zLk mi.1.cls x m2 na) (hn : As.length = na) (hst : st = As.reverse ++ zR o :: rest) (ho : o < n) (hk : (zlay o).1 = ci) (hci : ∃ T N, vwCl[ci]? = some (m2.1.cls, T, N)) (hr : rest.length ≤ 4) (hcs : k ≤ mc ∧ q ≤ ms)
    (kk : ∀ I' R', P I' R' → WP G mi (d + 1) mc ms k q (pc + 3) ls rest n I' R' Q) : WP G mi (d + 1) mc ms k q pc ls st n I R Q :=
  wp_callV hd hl hn hst ho hk hci hr hcs hM (fun r I' R' h => by
    obtain ⟨rfl, h⟩ := h
    exact kk I' R' h)
theorem wp_si {x na : Nat} {m2 : zM} {As rest : List zV} {P : Int → zMem → zRef → Prop} (hM : MT G m2 d 0 0 As n I R (zP1 P)) (hd : mi.2.2.2.2[t]? = some (pc, .invokestatic x, 3)) (hl : zLs mi.1.cls x m2 na) (hn : As.length = na) (hst : st = As.reverse ++ rest) (hr : rest.length ≤ 4) (hcs : k ≤ mc ∧ q ≤ ms)
    (kk : ∀ r I' R', P r I' R' → WP G mi (d + 1) mc ms k q (pc + 3) ls (.inl r :: rest) n I' R' Q) : WP G mi (d + 1) mc ms k q pc ls st n I R Q :=
  wp_callS hd hl hn hst hr hcs hM (fun r I' R' h => by
    obtain ⟨y, rfl, h⟩ := h
    exact kk y I' R' h)
theorem wp_sv {x na : Nat} {m2 : zM} {As rest : List zV} {P : zMem → zRef → Prop} (hM : MT G m2 d 0 0 As n I R (zP0 P)) (hd : mi.2.2.2.2[t]? = some (pc, .invokestatic x, 3)) (hl : zLs mi.1.cls x m2 na) (hn : As.length = na) (hst : st = As.reverse ++ rest) (hr : rest.length ≤ 4) (hcs : k ≤ mc ∧ q ≤ ms)
    (kk : ∀ I' R', P I' R' → WP G mi (d + 1) mc ms k q (pc + 3) ls rest n I' R' Q) : WP G mi (d + 1) mc ms k q pc ls st n I R Q :=
  wp_callS hd hl hn hst hr hcs hM (fun r I' R' h => by
    obtain ⟨rfl, h⟩ := h
    exact kk I' R' h)
theorem wp_top {x : Int} (kk : ∀ y, y = x → WP G mi d mc ms k q pc ls (.inl y :: st) n I R Q) : WP G mi d mc ms k q pc ls (.inl x :: st) n I R Q := kk x rfl
theorem wp_tin {x : Int} (i : Int) {dflt lo hi off : Int} {offs : Array Int} {len tgt : Nat} (hd : mi.2.2.2.2[t]? = some (pc, .tableswitch dflt lo hi offs, len)) (hxi : x = i) (hz : zin x) (h1 : lo ≤ i) (h2 : i ≤ hi) (ho : offs[(i - lo).toNat]? = some off) (ht : (pc : Int) + off = (tgt : Int)) (kk : WP G mi d mc ms k q tgt ls st n I R Q) : WP G mi d mc ms k q pc ls (.inl x :: st) n I R Q := by
  intro p e s m args below meth c H locs lsA F hZ hS hV hL
  obtain ⟨hx, hb, hml, hown, hts, hr, hlk, hnm, hK, hok⟩ := id F
  subst hxi
  exact lv_tableIn hx hb (ztok_at hok hd) (by rw [z32 hz]; omega) (by rw [z32 hz]; omega) (by rw [z32 hz]; exact ho) ht (kk p e s m args below meth c H locs lsA F hZ hS hV hL)
theorem wp_tout {x : Int} {dflt lo hi : Int} {offs : Array Int} {len tgt : Nat} (hd : mi.2.2.2.2[t]? = some (pc, .tableswitch dflt lo hi offs, len)) (hz : zin x) (h : x < lo ∨ hi < x) (ht : (pc : Int) + dflt = (tgt : Int)) (kk : WP G mi d mc ms k q tgt ls st n I R Q) : WP G mi d mc ms k q pc ls (.inl x :: st) n I R Q := by
  intro p e s m args below meth c H locs lsA F hZ hS hV hL
  obtain ⟨hx, hb, hml, hown, hts, hr, hlk, hnm, hK, hok⟩ := id F
  exact lv_tableOut hx hb (ztok_at hok hd) (by rw [z32 hz]; exact h) ht (kk p e s m args below meth c H locs lsA F hZ hS hV hL)
theorem wp_look {x : Int} {dflt off : Int} {ps : Array (Int × Int)} {len tgt : Nat} (hd : mi.2.2.2.2[t]? = some (pc, .lookupswitch dflt ps, len)) (hz : zin x) (hp : (ps.toList.zip (ps.toList.drop 1)).all (fun (a, next) => a.1 < next.1) = true) (ho : Op.lookupswitch.offset ps.toList dflt x = off) (ht : (pc : Int) + off = (tgt : Int)) (kk : WP G mi d mc ms k q tgt ls st n I R Q) : WP G mi d mc ms k q pc ls (.inl x :: st) n I R Q := by
  intro p e s m args below meth c H locs lsA F hZ hS hV hL
  obtain ⟨hx, hb, hml, hown, hts, hr, hlk, hnm, hK, hok⟩ := id F
  exact lv_lookup hx hb (ztok_at hok hd) hp (by rw [z32 hz]; exact ho) ht (kk p e s m args below meth c H locs lsA F hZ hS hV hL)
theorem wp_ls {ls' : List (Option zV)} (h : ls = ls') (kk : WP G mi d mc ms k q pc ls' st n I R Q) : WP G mi d mc ms k q pc ls st n I R Q := h ▸ kk
end ZC
theorem zu_eq {I : zMem} {a : Nat} {i v : Int} : zu I a i v a i = v := if_pos ⟨rfl, rfl⟩
theorem zu_na {I : zMem} {a b : Nat} {i j v : Int} (h : b ≠ a) : zu I a i v b j = I b j := if_neg (fun q => h q.1)
theorem zu_ni {I : zMem} {a b : Nat} {i j v : Int} (h : j ≠ i) : zu I a i v b j = I b j := if_neg (fun q => h q.2)
theorem zin_and (x y : Int) : zin (ziand x y) := zin_of _
theorem zin_or (x y : Int) : zin (zior x y) := zin_of _
theorem zin_xor (x y : Int) : zin (zixor x y) := zin_of _
theorem zin_shl (x y : Int) : zin (zishl x y) := zin_of _
theorem zin_shr (x y : Int) : zin (zishr x y) := zin_of _
theorem zin_le {x : Int} (h0 : -2147483648 ≤ x) (h1 : x ≤ 2147483647) : zin x := ⟨h0, by omega⟩
