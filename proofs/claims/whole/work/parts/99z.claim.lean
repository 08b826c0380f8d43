/-! the law: its loop, its start -/
section ZLZ
variable {G : zG} {p : Program} {e : Env} {s : State} {m : MethodId} {b : Nat} {below : List Frame} {meth : Method} {c : Code} {L : Nat} {xs : Nat → Int32}
set_option maxRecDepth 100000 in
theorem l_step {lsA : Array Slot} {I : zMem} {R : zRef} {i : Int} {rho1 rho2 : Int → Nat} (E : LCx G p s m b meth c L xs) (hA : lv_has lsA 4 (lLs G b i)) (h0 : 0 ≤ i) (hiL : i ≤ L + 4) (hi : Inv I R rho1 rho2) (kk : i + 3 < L → ∀ I2 R2 r1 r2, Inv I2 R2 r1 r2 → WLg G p e s m b below meth c lsA 773 [] I2 R2) : WLg G p e s m b below meth c lsA 18 [] I R := by
  intro H locs hS hV
  obtain ⟨⟨hx, hb, hr, hml, hown, hts, hX, hbl, hlk, hgv⟩, hB, hK, hL⟩ := id E
  have zi : zin i := ⟨by omega, by omega⟩
  have zL : zin ((L : Int) - 4) := ⟨by omega, by omega⟩
  refine lv_iload_n hx hb (ztok_at tL_law_ok (k := 10) rfl) rfl (lv_at hA 0 rfl) ?_
  refine lv_aload_n hx hb (ztok_at tL_law_ok (k := 11) rfl) rfl (lv_at hA 3 rfl) ?_
  refine va_slen hx hb hX hbl (by show ¬ (G.2.1 ≤ b); omega) hV (ztok_at tL_law_ok (k := 12) rfl) ?_
  refine lv_iconst hx hb (ztok_at tL_law_ok (k := 13) rfl) (v := Int32.ofInt 4) rfl ?_
  refine lv_isub hx hb (ztok_at tL_law_ok (k := 14) rfl) ?_
  rw [show Int32.ofNat L - Int32.ofInt 4 = Int32.ofInt ((L : Int) - 4) by rw [Int32.ofInt_sub, Int32.ofInt_eq_ofNat]]
  refine lv_icmp_gt hx hb (ztok_at tL_law_ok (k := 15) rfl) (tgt := 779) (by decide) (fun h => ?_) (fun h => ?_)
  · refine lv_iconst hx hb (ztok_at tL_law_ok (k := 499) rfl) (v := 1) rfl ?_
    refine va_forget (fun q hq => by rw [← hB]; exact hV.2.2 q hq) ?_
    refine W.widen (k := 600000) (n := 7302250) (Nat.le_of_ble_eq_true rfl) (Nat.le_of_ble_eq_true rfl) ?_
    exact lw_ret hx hb hr hlk (ztok_at tL_law_ok (k := 500) rfl)
  · have hi3 : i + 3 < L := by
      have h9 : ¬ ((L : Int) - 4 < i) := fun q => h ((z32_lt zL zi).mpr q)
      omega
    refine lv_aload_n hx hb (ztok_at tL_law_ok (k := 16) rfl) rfl (lv_at hA 3 rfl) ?_
    refine lv_iload_n hx hb (ztok_at tL_law_ok (k := 17) rfl) rfl (lv_at hA 0 rfl) ?_
    refine va_sld hx hb hX hbl (by show ¬ (G.2.1 ≤ b); omega) hV (zvp_in (by omega) (by omega) (by omega)) (ztok_at tL_law_ok (k := 18) rfl) ?_
    refine lv_bipush hx hb (ztok_at tL_law_ok (k := 19) rfl) (v := 31) (by decide) ?_
    refine lv_iand hx hb (ztok_at tL_law_ok (k := 20) rfl) ?_
    generalize xs (Int32.ofInt i).toNatClampNeg &&& 31 = y
    rcases (show y.toInt = 0 ∨ y.toInt = 1 ∨ y.toInt = 2 ∨ y.toInt = 3 ∨ y.toInt = 4 ∨ y.toInt = 5 ∨ y.toInt = 6 ∨ y.toInt = 7 ∨ y.toInt = 8 ∨ y.toInt = 9 ∨ y.toInt = 10 ∨ y.toInt = 11 ∨ y.toInt = 12 ∨ y.toInt = 13 ∨ y.toInt = 14 ∨ y.toInt = 15 ∨ y.toInt = 16 ∨ y.toInt = 17 ∨ y.toInt = 18 ∨ y.toInt = 19 ∨ y.toInt = 20 ∨ y.toInt = 21 ∨ y.toInt = 22 ∨ y.toInt = 23 ∨ y.toInt = 24 ∨ (y.toInt < 0 ∨ 24 < y.toInt) by omega) with h9 | h9 | h9 | h9 | h9 | h9 | h9 | h9 | h9 | h9 | h9 | h9 | h9 | h9 | h9 | h9 | h9 | h9 | h9 | h9 | h9 | h9 | h9 | h9 | h9 | h9
    · exact lv_tableIn hx hb (ztok_at tL_law_ok (k := 21) rfl) (by omega) (by omega) (off := 116) (by rw [h9]; rfl) (tgt := 148) (by decide) (l_write E hA h0 hi3 hi (kk hi3) H locs hS hV)
    · exact lv_tableIn hx hb (ztok_at tL_law_ok (k := 21) rfl) (by omega) (by omega) (off := 139) (by rw [h9]; rfl) (tgt := 171) (by decide) (l_wipe E hA h0 hi3 hi (kk hi3) H locs hS hV)
    · exact lv_tableIn hx hb (ztok_at tL_law_ok (k := 21) rfl) (by omega) (by omega) (off := 152) (by rw [h9]; rfl) (tgt := 184) (by decide) (l_fault E hA h0 hi3 hi (kk hi3) H locs hS hV)
    · exact lv_tableIn hx hb (ztok_at tL_law_ok (k := 21) rfl) (by omega) (by omega) (off := 165) (by rw [h9]; rfl) (tgt := 197) (by decide) (l_lay E hA h0 hi3 hi (kk hi3) H locs hS hV)
    · exact lv_tableIn hx hb (ztok_at tL_law_ok (k := 21) rfl) (by omega) (by omega) (off := 178) (by rw [h9]; rfl) (tgt := 210) (by decide) (l_core E hA h0 hi3 hi (kk hi3) H locs hS hV)
    · exact lv_tableIn hx hb (ztok_at tL_law_ok (k := 21) rfl) (by omega) (by omega) (off := 211) (by rw [h9]; rfl) (tgt := 243) (by decide) (l_chain E hA h0 hi3 hi (kk hi3) H locs hS hV)
    · exact lv_tableIn hx hb (ztok_at tL_law_ok (k := 21) rfl) (by omega) (by omega) (off := 244) (by rw [h9]; rfl) (tgt := 276) (by decide) (l_wrap E hA h0 hi3 hi (kk hi3) H locs hS hV)
    · exact lv_tableIn hx hb (ztok_at tL_law_ok (k := 21) rfl) (by omega) (by omega) (off := 287) (by rw [h9]; rfl) (tgt := 319) (by decide) (l_line E hA h0 hi3 hi (kk hi3) H locs hS hV)
    · exact lv_tableIn hx hb (ztok_at tL_law_ok (k := 21) rfl) (by omega) (by omega) (off := 330) (by rw [h9]; rfl) (tgt := 362) (by decide) (l_put E hA h0 hi3 hi (kk hi3) H locs hS hV)
    · exact lv_tableIn hx hb (ztok_at tL_law_ok (k := 21) rfl) (by omega) (by omega) (off := 373) (by rw [h9]; rfl) (tgt := 405) (by decide) (l_take E hA h0 hi3 hi (kk hi3) H locs hS hV)
    · exact lv_tableIn hx hb (ztok_at tL_law_ok (k := 21) rfl) (by omega) (by omega) (off := 396) (by rw [h9]; rfl) (tgt := 428) (by decide) (l_fill E hA h0 hi3 hi (kk hi3) H locs hS hV)
    · exact lv_tableIn hx hb (ztok_at tL_law_ok (k := 21) rfl) (by omega) (by omega) (off := 409) (by rw [h9]; rfl) (tgt := 441) (by decide) (l_rename E hA h0 hi3 hi (kk hi3) H locs hS hV)
    · exact lv_tableIn hx hb (ztok_at tL_law_ok (k := 21) rfl) (by omega) (by omega) (off := 442) (by rw [h9]; rfl) (tgt := 474) (by decide) (l_undo E hA h0 hi3 hi (kk hi3) H locs hS hV)
    · exact lv_tableIn hx hb (ztok_at tL_law_ok (k := 21) rfl) (by omega) (by omega) (off := 455) (by rw [h9]; rfl) (tgt := 487) (by decide) (l_why E hA h0 hi3 hi (kk hi3) H locs hS hV)
    · exact lv_tableIn hx hb (ztok_at tL_law_ok (k := 21) rfl) (by omega) (by omega) (off := 478) (by rw [h9]; rfl) (tgt := 510) (by decide) (l_soonest E hA h0 hi3 hi (kk hi3) H locs hS hV)
    · exact lv_tableIn hx hb (ztok_at tL_law_ok (k := 21) rfl) (by omega) (by omega) (off := 511) (by rw [h9]; rfl) (tgt := 543) (by decide) (l_runs E hA h0 hi3 hi (kk hi3) H locs hS hV)
    · exact lv_tableIn hx hb (ztok_at tL_law_ok (k := 21) rfl) (by omega) (by omega) (off := 544) (by rw [h9]; rfl) (tgt := 576) (by decide) (l_bound E hA h0 hi3 hi (kk hi3) H locs hS hV)
    · exact lv_tableIn hx hb (ztok_at tL_law_ok (k := 21) rfl) (by omega) (by omega) (off := 567) (by rw [h9]; rfl) (tgt := 599) (by decide) (l_best E hA h0 hi3 hi (kk hi3) H locs hS hV)
    · exact lv_tableIn hx hb (ztok_at tL_law_ok (k := 21) rfl) (by omega) (by omega) (off := 590) (by rw [h9]; rfl) (tgt := 622) (by decide) (l_costs E hA h0 hi3 hi (kk hi3) H locs hS hV)
    · exact lv_tableIn hx hb (ztok_at tL_law_ok (k := 21) rfl) (by omega) (by omega) (off := 613) (by rw [h9]; rfl) (tgt := 645) (by decide) (l_seen E hA h0 hi3 hi (kk hi3) H locs hS hV)
    · exact lv_tableIn hx hb (ztok_at tL_law_ok (k := 21) rfl) (by omega) (by omega) (off := 656) (by rw [h9]; rfl) (tgt := 688) (by decide) (l_forget E hA h0 hi3 hi (kk hi3) H locs hS hV)
    · exact lv_tableIn hx hb (ztok_at tL_law_ok (k := 21) rfl) (by omega) (by omega) (off := 669) (by rw [h9]; rfl) (tgt := 701) (by decide) (l_kinds E hA h0 hi3 hi (kk hi3) H locs hS hV)
    · exact lv_tableIn hx hb (ztok_at tL_law_ok (k := 21) rfl) (by omega) (by omega) (off := 692) (by rw [h9]; rfl) (tgt := 724) (by decide) (l_keep E hA h0 hi3 hi (kk hi3) H locs hS hV)
    · exact lv_tableIn hx hb (ztok_at tL_law_ok (k := 21) rfl) (by omega) (by omega) (off := 705) (by rw [h9]; rfl) (tgt := 737) (by decide) (l_back E hA h0 hi3 hi (kk hi3) H locs hS hV)
    · exact lv_tableIn hx hb (ztok_at tL_law_ok (k := 21) rfl) (by omega) (by omega) (off := 718) (by rw [h9]; rfl) (tgt := 750) (by decide) (l_count E hA h0 hi3 hi (kk hi3) H locs hS hV)
    · exact lv_tableOut hx hb (ztok_at tL_law_ok (k := 21) rfl) h9 (tgt := 773) (by decide) (kk hi3 I R rho1 rho2 hi H locs hS hV)
set_option maxRecDepth 100000 in
theorem l_loop (E : LCx G p s m b meth c L xs) : ∀ (fu : Nat) (i : Int) (I : zMem) (R : zRef) (rho1 rho2 : Int → Nat) (lsA : Array Slot), ((L : Int) + 4 - i).toNat ≤ fu → 0 ≤ i → i ≤ L + 4 → lv_has lsA 4 (lLs G b i) → Inv I R rho1 rho2 → WLg G p e s m b below meth c lsA 18 [] I R := by
  intro fu
  induction fu with
  | zero =>
    intro i I R rho1 rho2 lsA hf h0 hiL hA hi
    exact l_step E hA h0 hiL hi (fun h => absurd h (by omega))
  | succ fu ih =>
    intro i I R rho1 rho2 lsA hf h0 hiL hA hi
    refine l_step E hA h0 hiL hi (fun h I2 R2 r1 r2 hi2 => ?_)
    intro H locs hS hV
    refine lv_iinc (v := Int32.ofInt (i + 4)) (lv' := lLs G b (i + 4)) E.1.1 E.1.2.1 (ztok_at tL_law_ok (k := 497) rfl) hA (k := 0) rfl (Int32.ofInt_add i 4).symm (by decide) rfl (fun ls2 hl2 => ?_)
    refine lv_goto E.1.1 E.1.2.1 (ztok_at tL_law_ok (k := 498) rfl) (tgt := 18) (by decide) ?_
    exact ih (i + 4) I2 R2 r1 r2 ls2 (by omega) (by omega) (by omega) hl2 hi2 H locs hS hV
theorem cI9_0 {J : zMem} (h : cI9 J) : ∀ b : Nat, 115 ≤ b → ∀ j, J b j = 0 := by
  obtain ⟨_, _, _, _, _, _, _, _, _, _, _, _, _, _, h⟩ := h
  exact h
end ZLZ
/-- YOUR PART: from the entry, for every script of at most 2048 ints, the law comes to its end with true ('hflags': the launch's flags, for a law that throws: no stack traces) -/
theorem whole_start {p : Program} {e : Env} {s : State} {m : MethodId} {below : List Frame} {meth : Method} {c : Code} (l : Launch) (hflags : l.flags = flags0) {b L : Nat} {xs : Nat → Int32} (hL : L ≤ 2048) (C0 : lw_At p s m meth c b L xs) : W p l e room_1 s m #[Value.ref b] below meth c s.heap [] 0 0 (lw_Z below #[Value.ref b] s) (entryFrame m ([Value.ref b] : List Value).toArray 4) := by
  obtain ⟨hx, hb, hr, hml, hown, hts, hX, hbl, hlocks, hgv⟩ := id C0
  obtain ⟨G, hG1, hG2, hK⟩ := zKn_start l hts hgv
  subst hG1
  have E : LCx G p s m b meth c L xs := ⟨C0, hG2, hK, hL⟩
  have hl := lv_entry ([.ref b]) (n := 4) (Nat.le_of_ble_eq_true rfl)
  rw [lg_entry_eq]
  generalize (lg_sl ([.ref b]) ++ List.replicate (4 - (lg_sl ([.ref b])).length) Slot.unset).toArray = ls at hl ⊢
  have hl : lv_has ls 4 [(0, .ref b)] := hl
  have hS0 : zSt G 0 zI0 zR0 s.heap := ⟨fun k q h => by simp [zW] at h, fun a i => zin0⟩
  have hV0 : va_S (fun a => G.2.1 ≤ a) s.heap s.heap [] := va_S.rf
  refine wl_new E (t := 0) (n := 0) (q := 0) rfl nL_7 rfl (fun _ => rfl) (fun _ => rfl) d9 ⟨Nat.le_of_ble_eq_true rfl, Nat.le_of_ble_eq_true rfl⟩ hS0 hV0 (fun H1 hS1 hV1 => ?_)
  refine lv_dup hx hb (ztok_at tL_law_ok (k := 1) rfl) rfl ?_
  refine wl_init E (As := []) (o := 0) (n := 1) (q := 12) (rest := [.ref (G.2.1 + 0)]) (c_X9_init (G := G) (d := 0)) (t := 2) rfl iL_9 rfl rfl (Nat.le_of_ble_eq_true rfl) (Nat.le_of_ble_eq_true rfl) hl.1 ⟨Nat.le_of_ble_eq_true rfl, Nat.le_of_ble_eq_true rfl⟩ hS1 hV1 (fun I2 R2 H2 locs2 c2 hS2 hV2 => ?_)
  refine lv_astore_n (lv' := [(1, .ref (G.2.1 + 0)), (0, .ref b)]) hx hb (ztok_at tL_law_ok (k := 3) rfl) rfl hl (by decide) rfl (fun ls hl => ?_)
  refine wl_new E (t := 4) (n := 115) (q := 1710) rfl nL_10 rfl (fun j => cI9_0 c2.1 115 (Nat.le_refl _) j) (fun j => c2.2.2.2.2 115 (Nat.le_refl _) j) d10 ⟨Nat.le_of_ble_eq_true rfl, Nat.le_of_ble_eq_true rfl⟩ hS2 hV2 (fun H3 hS3 hV3 => ?_)
  refine lv_dup hx hb (ztok_at tL_law_ok (k := 5) rfl) rfl ?_
  refine wl_init E (As := []) (o := 115) (n := 116) (q := 1754) (rest := [.ref (G.2.1 + 115)]) (c_X10_init (G := G) (d := 0) (cI9_0 c2.1) c2.2.1) (t := 6) rfl iL_12 rfl rfl (Nat.le_of_ble_eq_true rfl) (Nat.le_of_ble_eq_true rfl) hl.1 ⟨Nat.le_of_ble_eq_true rfl, Nat.le_of_ble_eq_true rfl⟩ hS3 hV3 (fun I4 R4 H4 locs4 c4 hS4 hV4 => ?_)
  refine lv_astore_n (lv' := [(2, .ref (G.2.1 + 115)), (1, .ref (G.2.1 + 0)), (0, .ref b)]) hx hb (ztok_at tL_law_ok (k := 7) rfl) rfl hl (by decide) rfl (fun ls hl => ?_)
  refine lv_iconst (v := Int32.ofInt 0) hx hb (ztok_at tL_law_ok (k := 8) rfl) rfl ?_
  refine lv_istore_n (lv' := lLs G b 0) hx hb (ztok_at tL_law_ok (k := 9) rfl) rfl hl (by decide) rfl (fun ls hl => ?_)
  exact l_loop E (L + 4) 0 I4 R4 rho10 rho20 ls (by omega) (Int.le_refl 0) (by omega) hl (Inv_start c2.1 c2.2 c4.1 c4.2.1 c4.2.2) H4 locs4 hS4 hV4
-- ===== YOUR PART ENDS =====
set_option maxHeartbeats 4000000 in
theorem lw_walk (l : Launch) (hflags : l.flags = flags0) (b : Addr) (xs : List Int32) : MetFree l x (headSpec (Jvm.Cond.code x code maxLocals ret :: tables_1) room_1) (lw_P b xs) (fun _ _ _ _ _ => True) lw_Q := by
  refine MetFree.of_bodyS (code := code) (maxLocals := maxLocals) (ret := ret) (by decide) ?_ ?_
  · intro args s m h hn
    obtain ⟨meth, c, h1, h2, h3, h4, h5, h6, -, -⟩ := Cond.code_spec hn (atoms_spec (ws := Jvm.Cond.code x code maxLocals ret :: tables_1) h _ List.mem_cons_self)
    exact ⟨meth, c, h1, h2, h3, h4, h5, h6⟩
  · intro p e s m args below meth c s₁ B hml0 hP _
    obtain ⟨rfl, hx, hbd, hgv⟩ := hP
    obtain ⟨scr, harrAt, hlist, hof, hsmall⟩ := hx
    obtain ⟨hcb, hkn, -, -⟩ := State.arrayAt?_spec harrAt
    have hown : s.vm.findClass R_law = some m.cls := findClass_of_methodNamed B.named
    have hts0 : ∀ c ∈ (Jvm.Cond.code x code maxLocals ret :: tables_1), c.before #[Value.ref b] s = true := atoms_spec (ws := Jvm.Cond.code x code maxLocals ret :: tables_1) B.pre
    have hts : ∀ w ∈ lw_tbl, w.before #[Value.ref b] s = true := k2_hts_sels lw_privs (fun w hw => hts0 w (List.mem_cons_of_mem _ hw)) lw_privs_ok
    have hml : c.maxLocals = 4 := B.maxLocals_eq (hts0 _ List.mem_cons_self)
    have X₀ : Stand p l e room_1 s m #[Value.ref b] below meth c s₁ [] 0 0 := Stand.of_body B
    have hh0 : s₁.heap = s.heap := by rw [B.state]; rfl
    have hsz : scr.slots.size = xs.length := by rw [← Array.length_toList, hlist, List.length_map]
    have hval : ∀ j : Nat, j < xs.length → scr.slots[j]? = some (.int (xs.getD j 0)) := fun j hj => by
      rw [← Array.getElem?_toList, hlist]
      simp [hj]
    have hbl : b < s.heap.size := (Array.getElem?_eq_some_iff.mp hcb).1
    have hX : va_X b xs.length (fun j => xs.getD j 0) s s.heap := ⟨scr, hcb, hof, hkn, hsz, hval⟩
    have K : W p l e room_1 s m #[Value.ref b] below meth c s₁.heap [] 0 0 (lw_Z below #[Value.ref b] s) (entryFrame m ([Value.ref b] : List Value).toArray 4) := by
      rw [hh0]
      exact whole_start l hflags hbd ⟨B.exec, B.bytes, B.returns, hml, hown, hts, hX, hbl, B.notSynchronized, hgv⟩
    obtain ⟨t, a1, o, b1, b2, b3⟩ := K s₁ rfl X₀
    exact ⟨t, o, a1, b1, b2, b3⟩
theorem lw_pre_spec {args : Array Value} {s : State} (h : (Jvm.Cond.and given_1 narrow_1).before args s = true) (hr : rest_1_c.before args s = true) : ∃ (b : Addr) (xs : List Int32), lw_P b xs args s := by
  have hs := flat_of_before _ h
  have hq := flat_of_before _ hr
  have hc : (Cond.count 1).before args s = true := hs _ (by decide +kernel)
  have harr : (Cond.arrayOf (.arg 0) .int).before args s = true := hs _ (by decide +kernel)
  have hle : (Cond.le (.length (.arg 0)) (.int 2048)).before args s = true := hs _ (by decide +kernel)
  have hlen : (Cond.isInt (.length (.arg 0))).before args s = true := hq _ (by decide +kernel)
  have hall : (Cond.all (.arg 0) (.isInt (.elem (.arg 0) (.index 0)))).before args s = true := hq _ (by decide +kernel)
  obtain ⟨b, xs, hb, hx⟩ := State.ints_of_pre rfl harr hlen hall
  have hsm : xs.length < 2 ^ 31 := hx.choose_spec.2.2.2
  have hev : (Term.length (.arg 0)).eval args s none [] s = some (.int xs.length.toInt32) := hx.length_eval hb
  have hv := Cond.le_ints hev (show (Term.int 2048).eval args s none [] s = some (.int 2048) from rfl)
  have hd : xs.length.toInt32 ≤ 2048 := by
    simpa [Cond.before, Cond.holds, hv] using hle
  have hN : xs.length ≤ 2048 := (Int32.ofNat_le_ofNat hsm (by decide)).mp (show Int32.ofNat xs.length ≤ Int32.ofNat 2048 from hd)
  exact ⟨b, xs, Cond.one_arg hc (show args[0]? = some (.ref b) from hb), hx, hN, h⟩
theorem lw_comes (l : Launch) (hflags : l.flags = flags0) : Comes l x (Jvm.Cond.code x code maxLocals ret :: tables_1) room_1 (fun tb e args s => Calls_1 tb e args s ∧ rest_1 tb e args s ∧ Pre_1 tb e args s)
    (fun _ _ args s o t => lw_Q args s o t) := by
  intro p e ha hc hk s m args below hf hfit hheap happ hpre
  obtain ⟨b, xs, hP⟩ := lw_pre_spec hpre.2.2 hpre.2.1
  obtain ⟨k, o, h1, h2, h3, hQ⟩ := lw_walk l hflags b xs p e ha hc hk s m args below hf ((Spec.applies_iff_loose hf).mp happ).1 hP trivial
  exact ⟨k, o, h1, h2, h3, hQ⟩
theorem lw_frame {s t : State} {o : Outcome} {args : Array Value} (h : Framed s o t [] 600000 7302250) :
    Framed s o t (fieldLocs frame_1_writes args s ++ arrayLocs frame_1_arrays args s ++ staticLocs frame_1_statics s) 600000 7302250 := h
theorem lw_limb (L : Cond) (hL : ∀ (args : Array Value) (s t : State), L.after args s (.returned (some (.int 1))) t = true) :
    ArmFor flags0 classFile x code maxLocals ret World_1 tables_1 room_1 Calls_1 rest_1 Pre_1
      (fun tb e a s o t => postC L tb e a s o t ∧ Framed s o t (fieldLocs frame_1_writes a s ++ arrayLocs frame_1_arrays a s ++ staticLocs frame_1_statics s) 600000 7302250) := by
  intro l hflags _ _ p e ha hc hk s m args below hf hfit hheap happ hpre
  obtain ⟨k, o, h1, h2, h3, rfl, hF⟩ := lw_comes l hflags p e ha hc hk s m args below hf hfit hheap happ hpre
  exact ⟨k, _, h1, h2, h3, hL args s _, lw_frame hF⟩
theorem i_vc : Claimed_1_1 ∧ Claimed_1_2 := ⟨lw_limb limb_1_1 (fun args s t => by simp [limb_1_1, Cond.after, Cond.holds, Cond.value]), lw_limb limb_1_2 (fun args s t => Cond.after_iff.mpr (by
  first | (rw [show limb_1_2 = Cond.eq .result (.int 1) from rfl, Cond.eq_ints (x := 1) (y := 1) rfl rfl]; simp; done) | (simp [limb_1_2, Cond.value, Term.eval]; done)))⟩
