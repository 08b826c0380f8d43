/-! calls over a deeper operand stack -/
theorem zcats1 {B : Nat} : ∀ (r : List zV), r.all zone = true → ((r.map (zc B)).map fun v => v.category).sum ≤ r.length := by
  intro r
  induction r with
  | nil => intro _; exact Nat.le_refl _
  | cons a r ih =>
    intro h
    rw [List.all_cons, Bool.and_eq_true] at h
    rw [List.map_cons, List.map_cons, List.sum_cons, List.length_cons]
    have := zone_cat (B := B) h.1
    have := ih h.2
    omega
section ZB
variable {G : zG} {mi : zM} {d mc ms k q pc t : Nat} {ls : List (Option zV)} {st : List zV} {n : Nat} {I : zMem} {R : zRef} {Q : zPo}
theorem wp_callV8 {x o na mc2 ms2 ci : Nat} {m2 : zM} {As rest : List zV} {Q2 : zPo} (hd : mi.2.2.2.2[t]? = some (pc, .invokevirtual x, 3)) (hl : zLk mi.1.cls x m2 na) (hn : As.length = na) (hst : st = As.reverse ++ zR o :: rest) (ho : o < n) (hk : (zlay o).1 = ci) (hci : ∃ T N, vwCl[ci]? = some (m2.1.cls, T, N)) (hr : rest.length ≤ 8) (hr1 : rest.all zone = true) (hcs : k + mc2 ≤ mc ∧ q + ms2 ≤ ms)
    (hM : MT G m2 d mc2 ms2 (zR o :: As) n I R Q2) (kk : ∀ r I' R', Q2 r I' R' → WP G mi (d + 1) mc ms (k + mc2) (q + ms2) (pc + 3) ls (r.toList.map .inl ++ rest) (n + mc2) I' R' Q) : WP G mi (d + 1) mc ms k q pc ls st n I R Q := by
  intro p e s m args below meth c H locs lsA F hZ hS hV hL
  obtain ⟨hx, hb, hml, hown, hts, hr2, hlk, hnm, hK, hok⟩ := id F
  obtain ⟨l1, l2, l3, l4, l5, l6, l7, l8, l9⟩ := hl
  obtain ⟨T, N, hc⟩ := hci
  refine W_sized (fun hsz => ?_)
  have hsz := zsize hZ hS hV hsz
  have hG : GoodIn wsL_law (wsV mi.1.cls x m2.1.cls m2.1 (zws m2)) := by
    intro w hw
    unfold wsV zws at hw
    simp only [List.mem_append, List.mem_cons, List.not_mem_nil, or_false] at hw
    rcases hw with (rfl | rfl | rfl | rfl) | rfl | hw
    · exact zgood l1
    · exact zgood l2
    · exact zgood l3
    · exact zgood l4
    · exact zgood l5
    · exact zgood hw
  refine zback (m2 := m2) (x := x) (na := na) (av := []) (g := F0 m pc lsA []) F hZ hV hL hcs.1 (va_runV (As := As.map (zc G.2.1)) (b := G.2.1 + o) (n := na) (rm := zrm d mc2 ms2) ⟨hx, hb, hml, hown, hts⟩ hM (cwV na hts hG rfl rfl rfl ⟨rfl, l6, l7, l8⟩ ⟨Nat.le_refl _, by show 8 + (m2.2.2.1 + 11) + 60 * d ≤ 60 * (d + 1); omega⟩) ⟨zpre_blind, ?_, fun U hU hW => ⟨rfl, by rw [hU]; exact hsz, by rw [hU]; exact hS, hK.moved hW (by rw [hU]; exact hV.2.1)⟩⟩ rfl (by rw [List.length_map]; exact hn) (hL.1) ?_ (lv_room (Nat.le_trans (zcats1 rest hr1) (by omega))) (ztok_at hok hd) hcs) kk
  · exact va_recv hK.1 hS.1 (ci := ci) (q0 := o) hc (by rw [zW_get ho, zcell_o hk hc])
  · show st.map (zc G.2.1) = _
    rw [hst, List.map_append, List.map_reverse]
    rfl
theorem wp_vi8 {x o na ci : Nat} {m2 : zM} {As rest : List zV} {P : Int → zMem → zRef → Prop} (hM : MT G m2 d 0 0 (zR o :: As) n I R (zP1 P)) (hd : mi.2.2.2.2[t]? = some (pc, .invokevirtual x, 3)) (hl : zLk mi.1.cls x m2 na) (hn : As.length = na) (hst : st = As.reverse ++ zR o :: rest) (ho : o < n) (hk : (zlay o).1 = ci) (hci : ∃ T N, vwCl[ci]? = some (m2.1.cls, T, N)) (hr : rest.length ≤ 8) (hcs : k ≤ mc ∧ q ≤ ms) (hr1 : rest.all zone = true)
    (kk : ∀ r I' R', P r I' R' → WP G mi (d + 1) mc ms k q (pc + 3) ls (.inl r :: rest) n I' R' Q) : WP G mi (d + 1) mc ms k q pc ls st n I R Q :=
  wp_callV8 hd hl hn hst ho hk hci hr hr1 hcs hM (fun r I' R' h => by
    obtain ⟨y, rfl, h⟩ := h
    exact kk y I' R' h)
end ZB
