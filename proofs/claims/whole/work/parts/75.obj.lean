/-! Object's own, arrays of arrays -/
section ZH
variable {G : zG} {mi : zM} {d mc ms k q pc t : Nat} {ls : List (Option zV)} {st : List zV} {n : Nat} {I : zMem} {R : zRef} {Q : zPo}
theorem wp_objI {x o : Nat} (hd : mi.2.2.2.2[t]? = some (pc, .invokespecial x, 3)) (hl : Cond.methodLink mi.1.cls x objectInit ∈ wsL_law) (hr : st.length ≤ 4) (kk : WP G mi (d + 1) mc ms k q (pc + 3) ls st n I R Q) : WP G mi (d + 1) mc ms k q pc ls (zR o :: st) n I R Q := by
  intro p e s m args below meth c H locs lsA F hZ hS hV hL
  obtain ⟨hx, hb, hml, hown, hts, hr2, hlk, hnm, hK, hok⟩ := id F
  refine W.objInit hx hb hown (hts _ hl) (hts _ zobjI) (hts _ zobjC) rfl (hL.1.trans hml.symm) rfl (ztok_at hok hd) (Nat.le_add_left 1 d) ?_ (kk p e s m args below meth c H locs lsA F hZ hS hV hL)
  have := zcats (B := G.2.1) st
  show _ + _ ≤ 60 * (d + 1)
  show 2 * 0 + _ + 12 ≤ _
  omega
end ZH
