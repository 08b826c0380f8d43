/-! the reference's constructor -/
def zg (l : List Int) (c : Int) : Int := l.getD c.toNat 0
/-- the chip that both begin with -/
def zS0 : pS := ((4, 20, 5, 2), zg [0, 1, 2, 3, 0], zg [5, 4, 9, 8, 12], zg [6, 9, 4, 11, 5], zg [4, 2, 4, 4, 2], fun c i => zg ((([[9, 4, 3, 3], [7, 2], [5, 5, 5, 1], [8, 6, 4, 3], [3, 1]] : List (List Int))).getD c.toNat []) i, zg [0, 1], zg [3, 4])
def mTs (M J : zMem) (k : Int) : Prop := J 115 25 = k ∧ (∀ c : Int, 0 ≤ c → c < k → J 128 c = zS0.2.1 c ∧ J 129 c = zS0.2.2.1 c ∧ J 130 c = zS0.2.2.2.1 c ∧ J 131 c = zS0.2.2.2.2.1 c ∧ ∀ i : Int, 0 ≤ i → i < zS0.2.2.2.2.1 c → J 132 (6 * c + i) = zS0.2.2.2.2.2.1 c i) ∧ (∀ j : Int, j ≠ 25 → J 115 j = M 115 j) ∧ ∀ b : Nat, b ≠ 115 → b ≠ 128 → b ≠ 129 → b ≠ 130 → b ≠ 131 → b ≠ 132 → J b = M b
theorem zg_len (c : Int) : zS0.2.2.2.2.1 c ≤ 6 := by
  show zg [4, 2, 4, 4, 2] c ≤ 6
  unfold zg
  generalize c.toNat = k
  match k with
  | 0 => decide
  | 1 => decide
  | 2 => decide
  | 3 => decide
  | 4 => decide
  | k + 5 => exact (by decide : (0 : Int) ≤ 6)
theorem mTs_step {M J J' : zMem} {k a b c x : Int} {m : Nat} (h : mTs M J k) (ht : mTell J a b c x m J') (k0 : 0 ≤ k) (ha : a = zS0.2.1 k) (hb : b = zS0.2.2.1 k) (hc : c = zS0.2.2.2.1 k) (hm : (m : Int) = zS0.2.2.2.2.1 k) (hd : ∀ j : Nat, j < m → (dq x (m - 1 - j)).tmod 10 = zS0.2.2.2.2.2.1 k j) : mTs M J' (k + 1) := by
  obtain ⟨h1, h2, h3, h4⟩ := h
  unfold mTell at ht
  rw [h1] at ht
  obtain ⟨t1, t2, t3, t4, t5, t6, t7, t8, t9, t10⟩ := ht
  refine ⟨t6, fun e e0 e1 => ?_, fun j hj => (t9 j hj).trans (h3 j hj), fun e b1 b2 b3 b4 b5 b6 => (t10 e b1 b2 b3 b4 b5 b6).trans (h4 e b1 b2 b3 b4 b5 b6)⟩
  by_cases q : e = k
  · subst q
    refine ⟨t1.trans ha, t2.trans hb, t3.trans hc, t4.trans hm, fun i i0 i1 => ?_⟩
    have := t5 i.toNat (by omega)
    rw [show ((i.toNat : Nat) : Int) = i by omega] at this
    rw [this, hd i.toNat (by omega), show ((i.toNat : Nat) : Int) = i by omega]
  · have g := h2 e e0 (by omega)
    have f := t7 e (by omega)
    have l6 := zg_len e
    refine ⟨f.1.trans g.1, f.2.1.trans g.2.1, f.2.2.1.trans g.2.2.1, f.2.2.2.trans g.2.2.2.1, fun i i0 i1 => ?_⟩
    rw [t8 _ (by omega)]
    exact g.2.2.2.2 i i0 i1
theorem zWir_app {R : zRef} {L : List (Nat × Int × Nat)} {a0 b0 : Nat} (h : zWir a0 R) (hL : L.all (fun x => decide (a0 ≤ x.1)) = true) (hl : (List.range b0).all (fun a => decide ((zWL.getD a []).length ≤ 44)) = true) (hc : (List.range b0).all (fun a => decide (a < a0) || (List.range 44).all (fun k => match (zWL.getD a []).getD k none with | none => true | some r => decide (zlk L a (k : Int) = some r))) = true) : zWir b0 (zapp R L) := by
  intro a j r ha hz
  by_cases q : a < a0
  · rw [zapp_out (fun x hx => by have := of_decide_eq_true (List.all_eq_true.mp hL x hx); omega)]
    exact h a j r q hz
  · cases j with
    | negSucc k => cases hz
    | ofNat k =>
      have hz : (zWL.getD a []).getD k none = some r := hz
      have l := of_decide_eq_true (List.all_eq_true.mp hl a (List.mem_range.mpr ha))
      have hk : k < 44 := by
        apply Classical.byContradiction
        intro g
        rw [List.getD_eq_getElem?_getD, List.getElem?_eq_none (by omega)] at hz
        cases hz
      have c := List.all_eq_true.mp hc a (List.mem_range.mpr ha)
      rw [decide_eq_false q, Bool.false_or] at c
      have c2 := List.all_eq_true.mp c k (List.mem_range.mpr hk)
      rw [hz] at c2
      exact zapp_get (of_decide_eq_true c2)
def mInitP (I I' : zMem) : Prop := mLaid I' zS0 ∧ I' 115 12 = 0 ∧ I' 115 14 = 0 ∧ I' 115 16 = 0 ∧ I' 115 18 = 0 ∧ I' 115 20 = 0 ∧ ∀ b : Nat, b < 115 → I' b = I b
set_option maxHeartbeats 4000000 in
set_option maxRecDepth 100000 in
theorem c_X10_init {G : zG} {d : Nat} {I : zMem} {R : zRef} (hI : ∀ b, 115 ≤ b → ∀ j, I b j = 0) (hW0 : zWir 115 R) : MT G mX10_init (d + 1) 27 688 [zR 115] 116 I R (zP0 (fun I' R' => mInitP I I' ∧ zWir 143 R' ∧ ∀ b : Nat, b < 115 → R' b = R b)) := by
  refine MT.of (by decide +kernel) tX10_init_ok (Nat.le_of_ble_eq_true rfl) (fun hI0 => ?_)
  refine wp_ls (ls' := [some (zR 115)]) rfl (wp_R0 ?_)
  refine wp_aload_n (t := 0) rfl rfl ?_
  refine wp_objI (t := 1) rfl oX10_1 (Nat.le_of_ble_eq_true rfl) ?_
  refine wp_aload_n (t := 2) rfl rfl ?_
  refine wp_bipush (t := 3) rfl (by decide) ?_
  refine wp_newarr (t := 4) (len := 6) rfl rfl (by decide) rfl (fun j => by first | exact hI _ (by omega) j | (rw [zu_ne (by omega)]; exact hI _ (by omega) j) | (rw [zu_ne (by omega), zu_ne (by omega)]; exact hI _ (by omega) j) | (rw [zu_ne (by omega), zu_ne (by omega), zu_ne (by omega)]; exact hI _ (by omega) j)) ⟨Nat.le_of_ble_eq_true rfl, Nat.le_of_ble_eq_true rfl⟩ ?_
  refine wp_putL (t := 5) (ji := 4) rfl fX10_7 q10_4 (fun _ => ⟨rfl, rfl⟩) rfl rfl (by omega) (by first | rfl | assumption) rfl ⟨_, _, rfl⟩ ?_
  refine wp_aload_n (t := 6) rfl rfl ?_
  refine wp_bipush (t := 7) rfl (by decide) ?_
  refine wp_newarr (t := 8) (len := 6) rfl rfl (by decide) rfl (fun j => by first | exact hI _ (by omega) j | (rw [zu_ne (by omega)]; exact hI _ (by omega) j) | (rw [zu_ne (by omega), zu_ne (by omega)]; exact hI _ (by omega) j) | (rw [zu_ne (by omega), zu_ne (by omega), zu_ne (by omega)]; exact hI _ (by omega) j)) ⟨Nat.le_of_ble_eq_true rfl, Nat.le_of_ble_eq_true rfl⟩ ?_
  refine wp_putL (t := 9) (ji := 5) rfl fX10_13 q10_5 (fun _ => ⟨rfl, rfl⟩) rfl rfl (by omega) (by first | rfl | assumption) rfl ⟨_, _, rfl⟩ ?_
  refine wp_aload_n (t := 10) rfl rfl ?_
  refine wp_bipush (t := 11) rfl (by decide) ?_
  refine wp_newarr (t := 12) (len := 6) rfl rfl (by decide) rfl (fun j => by first | exact hI _ (by omega) j | (rw [zu_ne (by omega)]; exact hI _ (by omega) j) | (rw [zu_ne (by omega), zu_ne (by omega)]; exact hI _ (by omega) j) | (rw [zu_ne (by omega), zu_ne (by omega), zu_ne (by omega)]; exact hI _ (by omega) j)) ⟨Nat.le_of_ble_eq_true rfl, Nat.le_of_ble_eq_true rfl⟩ ?_
  refine wp_putL (t := 13) (ji := 6) rfl fX10_16 q10_6 (fun _ => ⟨rfl, rfl⟩) rfl rfl (by omega) (by first | rfl | assumption) rfl ⟨_, _, rfl⟩ ?_
  refine wp_aload_n (t := 14) rfl rfl ?_
  refine wp_bipush (t := 15) rfl (by decide) ?_
  refine wp_newarr (t := 16) (len := 36) rfl rfl (by decide) rfl (fun j => by first | exact hI _ (by omega) j | (rw [zu_ne (by omega)]; exact hI _ (by omega) j) | (rw [zu_ne (by omega), zu_ne (by omega)]; exact hI _ (by omega) j) | (rw [zu_ne (by omega), zu_ne (by omega), zu_ne (by omega)]; exact hI _ (by omega) j)) ⟨Nat.le_of_ble_eq_true rfl, Nat.le_of_ble_eq_true rfl⟩ ?_
  refine wp_putL (t := 17) (ji := 7) rfl fX10_19 q10_7 (fun _ => ⟨rfl, rfl⟩) rfl rfl (by omega) (by first | rfl | assumption) rfl ⟨_, _, rfl⟩ ?_
  refine wp_aload_n (t := 18) rfl rfl ?_
  refine wp_bipush (t := 19) rfl (by decide) ?_
  refine wp_newarr (t := 20) (len := 8) rfl rfl (by decide) rfl (fun j => by first | exact hI _ (by omega) j | (rw [zu_ne (by omega)]; exact hI _ (by omega) j) | (rw [zu_ne (by omega), zu_ne (by omega)]; exact hI _ (by omega) j) | (rw [zu_ne (by omega), zu_ne (by omega), zu_ne (by omega)]; exact hI _ (by omega) j)) ⟨Nat.le_of_ble_eq_true rfl, Nat.le_of_ble_eq_true rfl⟩ ?_
  refine wp_putL (t := 21) (ji := 8) rfl fX10_22 q10_8 (fun _ => ⟨rfl, rfl⟩) rfl rfl (by omega) (by first | rfl | assumption) rfl ⟨_, _, rfl⟩ ?_
  refine wp_aload_n (t := 22) rfl rfl ?_
  refine wp_bipush (t := 23) rfl (by decide) ?_
  refine wp_newarr (t := 24) (len := 8) rfl rfl (by decide) rfl (fun j => by first | exact hI _ (by omega) j | (rw [zu_ne (by omega)]; exact hI _ (by omega) j) | (rw [zu_ne (by omega), zu_ne (by omega)]; exact hI _ (by omega) j) | (rw [zu_ne (by omega), zu_ne (by omega), zu_ne (by omega)]; exact hI _ (by omega) j)) ⟨Nat.le_of_ble_eq_true rfl, Nat.le_of_ble_eq_true rfl⟩ ?_
  refine wp_putL (t := 25) (ji := 9) rfl fX10_25 q10_9 (fun _ => ⟨rfl, rfl⟩) rfl rfl (by omega) (by first | rfl | assumption) rfl ⟨_, _, rfl⟩ ?_
  refine wp_aload_n (t := 26) rfl rfl ?_
  refine wp_bipush (t := 27) rfl (by decide) ?_
  refine wp_newarr (t := 28) (len := 18) rfl rfl (by decide) rfl (fun j => by first | exact hI _ (by omega) j | (rw [zu_ne (by omega)]; exact hI _ (by omega) j) | (rw [zu_ne (by omega), zu_ne (by omega)]; exact hI _ (by omega) j) | (rw [zu_ne (by omega), zu_ne (by omega), zu_ne (by omega)]; exact hI _ (by omega) j)) ⟨Nat.le_of_ble_eq_true rfl, Nat.le_of_ble_eq_true rfl⟩ ?_
  refine wp_putL (t := 29) (ji := 10) rfl fX10_28 q10_10 (fun _ => ⟨rfl, rfl⟩) rfl rfl (by omega) (by first | rfl | assumption) rfl ⟨_, _, rfl⟩ ?_
  refine wp_aload_n (t := 30) rfl rfl ?_
  refine wp_sipush (t := 31) rfl (by decide) ?_
  refine wp_newarr (t := 32) (len := 144) rfl rfl (by decide) rfl (fun j => by first | exact hI _ (by omega) j | (rw [zu_ne (by omega)]; exact hI _ (by omega) j) | (rw [zu_ne (by omega), zu_ne (by omega)]; exact hI _ (by omega) j) | (rw [zu_ne (by omega), zu_ne (by omega), zu_ne (by omega)]; exact hI _ (by omega) j)) ⟨Nat.le_of_ble_eq_true rfl, Nat.le_of_ble_eq_true rfl⟩ ?_
  refine wp_putL (t := 33) (ji := 11) rfl fX10_31 q10_11 (fun _ => ⟨rfl, rfl⟩) rfl rfl (by omega) (by first | rfl | assumption) rfl ⟨_, _, rfl⟩ ?_
  refine wp_aload_n (t := 34) rfl rfl ?_
  refine wp_bipush (t := 35) rfl (by decide) ?_
  refine wp_newarr (t := 36) (len := 18) rfl rfl (by decide) rfl (fun j => by first | exact hI _ (by omega) j | (rw [zu_ne (by omega)]; exact hI _ (by omega) j) | (rw [zu_ne (by omega), zu_ne (by omega)]; exact hI _ (by omega) j) | (rw [zu_ne (by omega), zu_ne (by omega), zu_ne (by omega)]; exact hI _ (by omega) j)) ⟨Nat.le_of_ble_eq_true rfl, Nat.le_of_ble_eq_true rfl⟩ ?_
  refine wp_putL (t := 37) (ji := 13) rfl fX10_34 q10_13 (fun _ => ⟨rfl, rfl⟩) rfl rfl (by omega) (by first | rfl | assumption) rfl ⟨_, _, rfl⟩ ?_
  refine wp_aload_n (t := 38) rfl rfl ?_
  refine wp_bipush (t := 39) rfl (by decide) ?_
  refine wp_newarr (t := 40) (len := 36) rfl rfl (by decide) rfl (fun j => by first | exact hI _ (by omega) j | (rw [zu_ne (by omega)]; exact hI _ (by omega) j) | (rw [zu_ne (by omega), zu_ne (by omega)]; exact hI _ (by omega) j) | (rw [zu_ne (by omega), zu_ne (by omega), zu_ne (by omega)]; exact hI _ (by omega) j)) ⟨Nat.le_of_ble_eq_true rfl, Nat.le_of_ble_eq_true rfl⟩ ?_
  refine wp_putL (t := 41) (ji := 15) rfl fX10_37 q10_15 (fun _ => ⟨rfl, rfl⟩) rfl rfl (by omega) (by first | rfl | assumption) rfl ⟨_, _, rfl⟩ ?_
  refine wp_aload_n (t := 42) rfl rfl ?_
  refine wp_iconst (t := 43) rfl ?_
  refine wp_newarr (t := 44) (len := 4) rfl rfl (by decide) rfl (fun j => by first | exact hI _ (by omega) j | (rw [zu_ne (by omega)]; exact hI _ (by omega) j) | (rw [zu_ne (by omega), zu_ne (by omega)]; exact hI _ (by omega) j) | (rw [zu_ne (by omega), zu_ne (by omega), zu_ne (by omega)]; exact hI _ (by omega) j)) ⟨Nat.le_of_ble_eq_true rfl, Nat.le_of_ble_eq_true rfl⟩ ?_
  refine wp_putL (t := 45) (ji := 17) rfl fX10_40 q10_17 (fun _ => ⟨rfl, rfl⟩) rfl rfl (by omega) (by first | rfl | assumption) rfl ⟨_, _, rfl⟩ ?_
  refine wp_aload_n (t := 46) rfl rfl ?_
  refine wp_sipush (t := 47) rfl (by decide) ?_
  refine wp_newarr (t := 48) (len := 200) rfl rfl (by decide) rfl (fun j => by first | exact hI _ (by omega) j | (rw [zu_ne (by omega)]; exact hI _ (by omega) j) | (rw [zu_ne (by omega), zu_ne (by omega)]; exact hI _ (by omega) j) | (rw [zu_ne (by omega), zu_ne (by omega), zu_ne (by omega)]; exact hI _ (by omega) j)) ⟨Nat.le_of_ble_eq_true rfl, Nat.le_of_ble_eq_true rfl⟩ ?_
  refine wp_putL (t := 49) (ji := 19) rfl fX10_43 q10_19 (fun _ => ⟨rfl, rfl⟩) rfl rfl (by omega) (by first | rfl | assumption) rfl ⟨_, _, rfl⟩ ?_
  refine wp_aload_n (t := 50) rfl rfl ?_
  refine wp_bipush (t := 51) rfl (by decide) ?_
  refine wp_newarr (t := 52) (len := 6) rfl rfl (by decide) rfl (fun j => by first | exact hI _ (by omega) j | (rw [zu_ne (by omega)]; exact hI _ (by omega) j) | (rw [zu_ne (by omega), zu_ne (by omega)]; exact hI _ (by omega) j) | (rw [zu_ne (by omega), zu_ne (by omega), zu_ne (by omega)]; exact hI _ (by omega) j)) ⟨Nat.le_of_ble_eq_true rfl, Nat.le_of_ble_eq_true rfl⟩ ?_
  refine wp_putL (t := 53) (ji := 27) rfl fX10_46 q10_27 (fun _ => ⟨rfl, rfl⟩) rfl rfl (by omega) (by first | rfl | assumption) rfl ⟨_, _, rfl⟩ ?_
  refine wp_aload_n (t := 54) rfl rfl ?_
  refine wp_bipush (t := 55) rfl (by decide) ?_
  refine wp_newarr (t := 56) (len := 6) rfl rfl (by decide) rfl (fun j => by first | exact hI _ (by omega) j | (rw [zu_ne (by omega)]; exact hI _ (by omega) j) | (rw [zu_ne (by omega), zu_ne (by omega)]; exact hI _ (by omega) j) | (rw [zu_ne (by omega), zu_ne (by omega), zu_ne (by omega)]; exact hI _ (by omega) j)) ⟨Nat.le_of_ble_eq_true rfl, Nat.le_of_ble_eq_true rfl⟩ ?_
  refine wp_putL (t := 57) (ji := 28) rfl fX10_49 q10_28 (fun _ => ⟨rfl, rfl⟩) rfl rfl (by omega) (by first | rfl | assumption) rfl ⟨_, _, rfl⟩ ?_
  refine wp_aload_n (t := 58) rfl rfl ?_
  refine wp_bipush (t := 59) rfl (by decide) ?_
  refine wp_newarr (t := 60) (len := 6) rfl rfl (by decide) rfl (fun j => by first | exact hI _ (by omega) j | (rw [zu_ne (by omega)]; exact hI _ (by omega) j) | (rw [zu_ne (by omega), zu_ne (by omega)]; exact hI _ (by omega) j) | (rw [zu_ne (by omega), zu_ne (by omega), zu_ne (by omega)]; exact hI _ (by omega) j)) ⟨Nat.le_of_ble_eq_true rfl, Nat.le_of_ble_eq_true rfl⟩ ?_
  refine wp_putL (t := 61) (ji := 29) rfl fX10_52 q10_29 (fun _ => ⟨rfl, rfl⟩) rfl rfl (by omega) (by first | rfl | assumption) rfl ⟨_, _, rfl⟩ ?_
  refine wp_aload_n (t := 62) rfl rfl ?_
  refine wp_bipush (t := 63) rfl (by decide) ?_
  refine wp_newarr (t := 64) (len := 6) rfl rfl (by decide) rfl (fun j => by first | exact hI _ (by omega) j | (rw [zu_ne (by omega)]; exact hI _ (by omega) j) | (rw [zu_ne (by omega), zu_ne (by omega)]; exact hI _ (by omega) j) | (rw [zu_ne (by omega), zu_ne (by omega), zu_ne (by omega)]; exact hI _ (by omega) j)) ⟨Nat.le_of_ble_eq_true rfl, Nat.le_of_ble_eq_true rfl⟩ ?_
  refine wp_putL (t := 65) (ji := 30) rfl fX10_55 q10_30 (fun _ => ⟨rfl, rfl⟩) rfl rfl (by omega) (by first | rfl | assumption) rfl ⟨_, _, rfl⟩ ?_
  refine wp_aload_n (t := 66) rfl rfl ?_
  refine wp_bipush (t := 67) rfl (by decide) ?_
  refine wp_newarr (t := 68) (len := 36) rfl rfl (by decide) rfl (fun j => by first | exact hI _ (by omega) j | (rw [zu_ne (by omega)]; exact hI _ (by omega) j) | (rw [zu_ne (by omega), zu_ne (by omega)]; exact hI _ (by omega) j) | (rw [zu_ne (by omega), zu_ne (by omega), zu_ne (by omega)]; exact hI _ (by omega) j)) ⟨Nat.le_of_ble_eq_true rfl, Nat.le_of_ble_eq_true rfl⟩ ?_
  refine wp_putL (t := 69) (ji := 31) rfl fX10_58 q10_31 (fun _ => ⟨rfl, rfl⟩) rfl rfl (by omega) (by first | rfl | assumption) rfl ⟨_, _, rfl⟩ ?_
  refine wp_aload_n (t := 70) rfl rfl ?_
  refine wp_bipush (t := 71) rfl (by decide) ?_
  refine wp_newarr (t := 72) (len := 8) rfl rfl (by decide) rfl (fun j => by first | exact hI _ (by omega) j | (rw [zu_ne (by omega)]; exact hI _ (by omega) j) | (rw [zu_ne (by omega), zu_ne (by omega)]; exact hI _ (by omega) j) | (rw [zu_ne (by omega), zu_ne (by omega), zu_ne (by omega)]; exact hI _ (by omega) j)) ⟨Nat.le_of_ble_eq_true rfl, Nat.le_of_ble_eq_true rfl⟩ ?_
  refine wp_putL (t := 73) (ji := 32) rfl fX10_61 q10_32 (fun _ => ⟨rfl, rfl⟩) rfl rfl (by omega) (by first | rfl | assumption) rfl ⟨_, _, rfl⟩ ?_
  refine wp_aload_n (t := 74) rfl rfl ?_
  refine wp_bipush (t := 75) rfl (by decide) ?_
  refine wp_newarr (t := 76) (len := 8) rfl rfl (by decide) rfl (fun j => by first | exact hI _ (by omega) j | (rw [zu_ne (by omega)]; exact hI _ (by omega) j) | (rw [zu_ne (by omega), zu_ne (by omega)]; exact hI _ (by omega) j) | (rw [zu_ne (by omega), zu_ne (by omega), zu_ne (by omega)]; exact hI _ (by omega) j)) ⟨Nat.le_of_ble_eq_true rfl, Nat.le_of_ble_eq_true rfl⟩ ?_
  refine wp_putL (t := 77) (ji := 33) rfl fX10_64 q10_33 (fun _ => ⟨rfl, rfl⟩) rfl rfl (by omega) (by first | rfl | assumption) rfl ⟨_, _, rfl⟩ ?_
  refine wp_aload_n (t := 78) rfl rfl ?_
  refine wp_bipush (t := 79) rfl (by decide) ?_
  refine wp_newarr (t := 80) (len := 8) rfl rfl (by decide) rfl (fun j => by first | exact hI _ (by omega) j | (rw [zu_ne (by omega)]; exact hI _ (by omega) j) | (rw [zu_ne (by omega), zu_ne (by omega)]; exact hI _ (by omega) j) | (rw [zu_ne (by omega), zu_ne (by omega), zu_ne (by omega)]; exact hI _ (by omega) j)) ⟨Nat.le_of_ble_eq_true rfl, Nat.le_of_ble_eq_true rfl⟩ ?_
  refine wp_putL (t := 81) (ji := 34) rfl fX10_67 q10_34 (fun _ => ⟨rfl, rfl⟩) rfl rfl (by omega) (by first | rfl | assumption) rfl ⟨_, _, rfl⟩ ?_
  refine wp_aload_n (t := 82) rfl rfl ?_
  refine wp_bipush (t := 83) rfl (by decide) ?_
  refine wp_newarr (t := 84) (len := 6) rfl rfl (by decide) rfl (fun j => by first | exact hI _ (by omega) j | (rw [zu_ne (by omega)]; exact hI _ (by omega) j) | (rw [zu_ne (by omega), zu_ne (by omega)]; exact hI _ (by omega) j) | (rw [zu_ne (by omega), zu_ne (by omega), zu_ne (by omega)]; exact hI _ (by omega) j)) ⟨Nat.le_of_ble_eq_true rfl, Nat.le_of_ble_eq_true rfl⟩ ?_
  refine wp_putL (t := 85) (ji := 35) rfl fX10_70 q10_35 (fun _ => ⟨rfl, rfl⟩) rfl rfl (by omega) (by first | rfl | assumption) rfl ⟨_, _, rfl⟩ ?_
  refine wp_aload_n (t := 86) rfl rfl ?_
  refine wp_bipush (t := 87) rfl (by decide) ?_
  refine wp_newarr (t := 88) (len := 54) rfl rfl (by decide) rfl (fun j => by first | exact hI _ (by omega) j | (rw [zu_ne (by omega)]; exact hI _ (by omega) j) | (rw [zu_ne (by omega), zu_ne (by omega)]; exact hI _ (by omega) j) | (rw [zu_ne (by omega), zu_ne (by omega), zu_ne (by omega)]; exact hI _ (by omega) j)) ⟨Nat.le_of_ble_eq_true rfl, Nat.le_of_ble_eq_true rfl⟩ ?_
  refine wp_putL (t := 89) (ji := 36) rfl fX10_73 q10_36 (fun _ => ⟨rfl, rfl⟩) rfl rfl (by omega) (by first | rfl | assumption) rfl ⟨_, _, rfl⟩ ?_
  refine wp_aload_n (t := 90) rfl rfl ?_
  refine wp_bipush (t := 91) rfl (by decide) ?_
  refine wp_newarr (t := 92) (len := 18) rfl rfl (by decide) rfl (fun j => by first | exact hI _ (by omega) j | (rw [zu_ne (by omega)]; exact hI _ (by omega) j) | (rw [zu_ne (by omega), zu_ne (by omega)]; exact hI _ (by omega) j) | (rw [zu_ne (by omega), zu_ne (by omega), zu_ne (by omega)]; exact hI _ (by omega) j)) ⟨Nat.le_of_ble_eq_true rfl, Nat.le_of_ble_eq_true rfl⟩ ?_
  refine wp_putL (t := 93) (ji := 39) rfl fX10_76 q10_39 (fun _ => ⟨rfl, rfl⟩) rfl rfl (by omega) (by first | rfl | assumption) rfl ⟨_, _, rfl⟩ ?_
  refine wp_aload_n (t := 94) rfl rfl ?_
  refine wp_bipush (t := 95) rfl (by decide) ?_
  refine wp_newarr (t := 96) (len := 18) rfl rfl (by decide) rfl (fun j => by first | exact hI _ (by omega) j | (rw [zu_ne (by omega)]; exact hI _ (by omega) j) | (rw [zu_ne (by omega), zu_ne (by omega)]; exact hI _ (by omega) j) | (rw [zu_ne (by omega), zu_ne (by omega), zu_ne (by omega)]; exact hI _ (by omega) j)) ⟨Nat.le_of_ble_eq_true rfl, Nat.le_of_ble_eq_true rfl⟩ ?_
  refine wp_putL (t := 97) (ji := 40) rfl fX10_79 q10_40 (fun _ => ⟨rfl, rfl⟩) rfl rfl (by omega) (by first | rfl | assumption) rfl ⟨_, _, rfl⟩ ?_
  refine wp_aload_n (t := 98) rfl rfl ?_
  refine wp_bipush (t := 99) rfl (by decide) ?_
  refine wp_newarr (t := 100) (len := 6) rfl rfl (by decide) rfl (fun j => by first | exact hI _ (by omega) j | (rw [zu_ne (by omega)]; exact hI _ (by omega) j) | (rw [zu_ne (by omega), zu_ne (by omega)]; exact hI _ (by omega) j) | (rw [zu_ne (by omega), zu_ne (by omega), zu_ne (by omega)]; exact hI _ (by omega) j)) ⟨Nat.le_of_ble_eq_true rfl, Nat.le_of_ble_eq_true rfl⟩ ?_
  refine wp_putL (t := 101) (ji := 41) rfl fX10_82 q10_41 (fun _ => ⟨rfl, rfl⟩) rfl rfl (by omega) (by first | rfl | assumption) rfl ⟨_, _, rfl⟩ ?_
  refine wp_aload_n (t := 102) rfl rfl ?_
  refine wp_bipush (t := 103) rfl (by decide) ?_
  refine wp_newarr (t := 104) (len := 6) rfl rfl (by decide) rfl (fun j => by first | exact hI _ (by omega) j | (rw [zu_ne (by omega)]; exact hI _ (by omega) j) | (rw [zu_ne (by omega), zu_ne (by omega)]; exact hI _ (by omega) j) | (rw [zu_ne (by omega), zu_ne (by omega), zu_ne (by omega)]; exact hI _ (by omega) j)) ⟨Nat.le_of_ble_eq_true rfl, Nat.le_of_ble_eq_true rfl⟩ ?_
  refine wp_putL (t := 105) (ji := 42) rfl fX10_85 q10_42 (fun _ => ⟨rfl, rfl⟩) rfl rfl (by omega) (by first | rfl | assumption) rfl ⟨_, _, rfl⟩ ?_
  refine wp_aload_n (t := 106) rfl rfl ?_
  refine wp_bipush (t := 107) rfl (by decide) ?_
  refine wp_newarr (t := 108) (len := 6) rfl rfl (by decide) rfl (fun j => by first | exact hI _ (by omega) j | (rw [zu_ne (by omega)]; exact hI _ (by omega) j) | (rw [zu_ne (by omega), zu_ne (by omega)]; exact hI _ (by omega) j) | (rw [zu_ne (by omega), zu_ne (by omega), zu_ne (by omega)]; exact hI _ (by omega) j)) ⟨Nat.le_of_ble_eq_true rfl, Nat.le_of_ble_eq_true rfl⟩ ?_
  refine wp_putL (t := 109) (ji := 43) rfl fX10_88 q10_43 (fun _ => ⟨rfl, rfl⟩) rfl rfl (by omega) (by first | rfl | assumption) rfl ⟨_, _, rfl⟩ ?_
  refine wp_tagR (fun L hLe => ?_)
  have hW : zWir 143 (zapp R L) := zWir_app hW0 (by rw [← hLe]; decide +kernel) (by decide +kernel) (by rw [← hLe]; decide +kernel)
  have hL5 : ∀ x ∈ L, 115 ≤ x.1 := fun x hx => of_decide_eq_true (List.all_eq_true.mp (show L.all (fun x => decide (115 ≤ x.1)) = true by rw [← hLe]; decide +kernel) x hx)
  have z6 : ∀ k : Int, (115 : Nat) ≠ 0 := fun _ => by decide
  refine wp_aload_n (t := 110) rfl rfl ?_
  refine wp_iconst (t := 111) rfl ?_
  refine wp_putI (t := 112) (ji := 0) rfl fX10_91 p10_0 rfl rfl (by omega) (by first | rfl | assumption) (by first | assumption | exact hI0 _ _ | exact zin_and _ _ | (unfold zin; omega) | (unfold zin at *; omega)) ?_
  refine wp_canon (fun hI1 => ?_)
  refine wp_aload_n (t := 113) rfl rfl ?_
  refine wp_bipush (t := 114) rfl (by decide) ?_
  refine wp_putI (t := 115) (ji := 1) rfl fX10_95 p10_1 rfl rfl (by omega) (by first | rfl | assumption) (by first | assumption | exact hI1 _ _ | exact hI0 _ _ | exact zin_and _ _ | (unfold zin; omega) | (unfold zin at *; omega)) ?_
  refine wp_canon (fun hI2 => ?_)
  refine wp_aload_n (t := 116) rfl rfl ?_
  refine wp_iconst (t := 117) rfl ?_
  refine wp_iconst (t := 118) rfl ?_
  refine wp_bipush (t := 119) rfl (by decide) ?_
  refine wp_ldc2 (9433) (t := 120) rfl (wsL_law_r15_l (List.mem_of_getElem? (i := 8) rfl)) (by decide) ?_
  refine wp_vv (ci := 10) (c_X10_tell (d := d) 4 hW (Nat.le_of_ble_eq_true rfl) (by rw [zu_ni (by decide), zu_ni (by decide), hI 115 (Nat.le_refl _)]; omega) (by unfold zin; omega) (by unfold zin; omega) (by unfold zin; omega) (by omega) (by omega) (by decide +kernel) (by decide +kernel)) (t := 121) rfl kX10_100 rfl rfl (by omega) (by first | rfl | assumption) ⟨_, _, rfl⟩ (Nat.le_of_ble_eq_true rfl) ⟨Nat.le_refl _, Nat.le_refl _⟩ (fun I240 R240 c240 => ?_)
  refine wp_canon (fun hI3 => ?_)
  obtain ⟨c240, rfl⟩ := c240
  generalize hM : zu (zu I 115 0 4) 115 1 20 = M at c240
  have s1 : mTs M I240 1 := mTs_step (k := 0) ⟨by rw [← hM, zu_ni (by decide), zu_ni (by decide)]; exact hI 115 (Nat.le_refl _) 25, fun c c0 c1 => absurd c1 (by omega), fun _ _ => rfl, fun _ _ _ _ _ _ _ => rfl⟩ c240 (by omega) rfl rfl rfl rfl (by decide +kernel)
  refine wp_aload_n (t := 122) rfl rfl ?_
  refine wp_iconst (t := 123) rfl ?_
  refine wp_iconst (t := 124) rfl ?_
  refine wp_bipush (t := 125) rfl (by decide) ?_
  refine wp_ldc2 (72) (t := 126) rfl (wsL_law_r15_l (List.mem_of_getElem? (i := 9) rfl)) (by decide) ?_
  refine wp_vv (ci := 10) (c_X10_tell (d := d) 2 hW (Nat.le_of_ble_eq_true rfl) (by rw [s1.1]; omega) (by unfold zin; omega) (by unfold zin; omega) (by unfold zin; omega) (by omega) (by omega) (by decide +kernel) (by decide +kernel)) (t := 127) rfl kX10_100 rfl rfl (by omega) (by first | rfl | assumption) ⟨_, _, rfl⟩ (Nat.le_of_ble_eq_true rfl) ⟨Nat.le_refl _, Nat.le_refl _⟩ (fun I251 R251 c251 => ?_)
  refine wp_canon (fun hI4 => ?_)
  obtain ⟨c251, rfl⟩ := c251
  have s2 := mTs_step s1 c251 (by omega) rfl rfl rfl rfl (by decide +kernel)
  refine wp_aload_n (t := 128) rfl rfl ?_
  refine wp_iconst (t := 129) rfl ?_
  refine wp_bipush (t := 130) rfl (by decide) ?_
  refine wp_iconst (t := 131) rfl ?_
  refine wp_ldc2 (5551) (t := 132) rfl (wsL_law_r15_l (List.mem_of_getElem? (i := 10) rfl)) (by decide) ?_
  refine wp_vv (ci := 10) (c_X10_tell (d := d) 4 hW (Nat.le_of_ble_eq_true rfl) (by rw [s2.1]; omega) (by unfold zin; omega) (by unfold zin; omega) (by unfold zin; omega) (by omega) (by omega) (by decide +kernel) (by decide +kernel)) (t := 133) rfl kX10_100 rfl rfl (by omega) (by first | rfl | assumption) ⟨_, _, rfl⟩ (Nat.le_of_ble_eq_true rfl) ⟨Nat.le_refl _, Nat.le_refl _⟩ (fun I262 R262 c262 => ?_)
  refine wp_canon (fun hI5 => ?_)
  obtain ⟨c262, rfl⟩ := c262
  have s3 := mTs_step s2 c262 (by omega) rfl rfl rfl rfl (by decide +kernel)
  refine wp_aload_n (t := 134) rfl rfl ?_
  refine wp_iconst (t := 135) rfl ?_
  refine wp_bipush (t := 136) rfl (by decide) ?_
  refine wp_bipush (t := 137) rfl (by decide) ?_
  refine wp_ldc2 (8643) (t := 138) rfl (wsL_law_r15_l (List.mem_of_getElem? (i := 11) rfl)) (by decide) ?_
  refine wp_vv (ci := 10) (c_X10_tell (d := d) 4 hW (Nat.le_of_ble_eq_true rfl) (by rw [s3.1]; omega) (by unfold zin; omega) (by unfold zin; omega) (by unfold zin; omega) (by omega) (by omega) (by decide +kernel) (by decide +kernel)) (t := 139) rfl kX10_100 rfl rfl (by omega) (by first | rfl | assumption) ⟨_, _, rfl⟩ (Nat.le_of_ble_eq_true rfl) ⟨Nat.le_refl _, Nat.le_refl _⟩ (fun I274 R274 c274 => ?_)
  refine wp_canon (fun hI6 => ?_)
  obtain ⟨c274, rfl⟩ := c274
  have s4 := mTs_step s3 c274 (by omega) rfl rfl rfl rfl (by decide +kernel)
  refine wp_aload_n (t := 140) rfl rfl ?_
  refine wp_iconst (t := 141) rfl ?_
  refine wp_bipush (t := 142) rfl (by decide) ?_
  refine wp_iconst (t := 143) rfl ?_
  refine wp_ldc2 (31) (t := 144) rfl (wsL_law_r15_l (List.mem_of_getElem? (i := 12) rfl)) (by decide) ?_
  refine wp_vv (ci := 10) (c_X10_tell (d := d) 2 hW (Nat.le_of_ble_eq_true rfl) (by rw [s4.1]; omega) (by unfold zin; omega) (by unfold zin; omega) (by unfold zin; omega) (by omega) (by omega) (by decide +kernel) (by decide +kernel)) (t := 145) rfl kX10_100 rfl rfl (by omega) (by first | rfl | assumption) ⟨_, _, rfl⟩ (Nat.le_of_ble_eq_true rfl) ⟨Nat.le_refl _, Nat.le_refl _⟩ (fun I285 R285 c285 => ?_)
  refine wp_canon (fun hI7 => ?_)
  obtain ⟨c285, rfl⟩ := c285
  have s5 := mTs_step s4 c285 (by omega) rfl rfl rfl rfl (by decide +kernel)
  obtain ⟨q1, q2, q3, q4⟩ := s5
  refine wp_aload_n (t := 146) rfl rfl ?_
  refine wp_aload_n (t := 147) rfl rfl ?_
  refine wp_getI (t := 148) (ji := 25) rfl fX10_112 rfl rfl (by omega) (by first | rfl | assumption) ?_
  rw [show I285 115 25 = 5 from q1]
  refine wp_putI (t := 149) (ji := 2) rfl fX10_115 p10_2 rfl rfl (by omega) (by first | rfl | assumption) (by first | assumption | exact hI7 _ _ | exact hI6 _ _ | exact hI5 _ _ | exact hI4 _ _ | exact hI3 _ _ | exact hI2 _ _ | exact hI1 _ _ | exact hI0 _ _ | exact zin_and _ _ | (unfold zin; omega) | (unfold zin at *; omega)) ?_
  refine wp_canon (fun hI8 => ?_)
  refine wp_aload_n (t := 150) rfl rfl ?_
  refine wp_vv (ci := 10) (c_X10_takeCores (d := d) hW (Nat.le_of_ble_eq_true rfl) (by rw [zu_eq]; omega)) (t := 151) rfl kX10_118 rfl rfl (by omega) (by first | rfl | assumption) ⟨_, _, rfl⟩ (Nat.le_of_ble_eq_true rfl) ⟨Nat.le_refl _, Nat.le_refl _⟩ (fun I297 R297 c297 => ?_)
  refine wp_canon (fun hI9 => ?_)
  obtain ⟨t7, rfl⟩ := c297
  rw [zu_eq] at t7
  refine wp_aload_n (t := 152) rfl rfl ?_
  refine wp_iconst (t := 153) rfl ?_
  refine wp_putI (t := 154) (ji := 3) rfl fX10_121 p10_3 rfl rfl (by omega) (by first | rfl | assumption) (by first | assumption | exact hI9 _ _ | exact hI8 _ _ | exact hI7 _ _ | exact hI6 _ _ | exact hI5 _ _ | exact hI4 _ _ | exact hI3 _ _ | exact hI2 _ _ | exact hI1 _ _ | exact hI0 _ _ | exact zin_and _ _ | (unfold zin; omega) | (unfold zin at *; omega)) ?_
  refine wp_canon (fun hI10 => ?_)
  refine wp_aload_n (t := 155) rfl rfl ?_
  refine wp_getR (t := 156) (ji := 9) rfl fX10_25 rfl rfl (by omega) (by first | rfl | assumption) (by first | exact hW _ _ _ (by omega) rfl | assumption | exact zapp_get rfl) ?_
  refine wp_iconst (t := 157) rfl ?_
  refine wp_iconst (t := 158) rfl ?_
  refine wp_iastore (t := 159) rfl (by omega) (by first | rfl | assumption) (by omega) (by omega) (by omega) (by first | assumption | exact hI10 _ _ | exact hI9 _ _ | exact hI8 _ _ | exact hI7 _ _ | exact hI6 _ _ | exact hI5 _ _ | exact hI4 _ _ | exact hI3 _ _ | exact hI2 _ _ | exact hI1 _ _ | exact hI0 _ _ | exact zin_and _ _ | (unfold zin; omega) | (unfold zin at *; omega)) ?_
  refine wp_canon (fun hI11 => ?_)
  refine wp_aload_n (t := 160) rfl rfl ?_
  refine wp_getR (t := 161) (ji := 8) rfl fX10_22 rfl rfl (by omega) (by first | rfl | assumption) (by first | exact hW _ _ _ (by omega) rfl | assumption | exact zapp_get rfl) ?_
  refine wp_iconst (t := 162) rfl ?_
  refine wp_iconst (t := 163) rfl ?_
  refine wp_iastore (t := 164) rfl (by omega) (by first | rfl | assumption) (by omega) (by omega) (by omega) (by first | assumption | exact hI11 _ _ | exact hI10 _ _ | exact hI9 _ _ | exact hI8 _ _ | exact hI7 _ _ | exact hI6 _ _ | exact hI5 _ _ | exact hI4 _ _ | exact hI3 _ _ | exact hI2 _ _ | exact hI1 _ _ | exact hI0 _ _ | exact zin_and _ _ | (unfold zin; omega) | (unfold zin at *; omega)) ?_
  refine wp_canon (fun hI12 => ?_)
  refine wp_aload_n (t := 165) rfl rfl ?_
  refine wp_getR (t := 166) (ji := 9) rfl fX10_25 rfl rfl (by omega) (by first | rfl | assumption) (by first | exact hW _ _ _ (by omega) rfl | assumption | exact zapp_get rfl) ?_
  refine wp_iconst (t := 167) rfl ?_
  refine wp_iconst (t := 168) rfl ?_
  refine wp_iastore (t := 169) rfl (by omega) (by first | rfl | assumption) (by omega) (by omega) (by omega) (by first | assumption | exact hI12 _ _ | exact hI11 _ _ | exact hI10 _ _ | exact hI9 _ _ | exact hI8 _ _ | exact hI7 _ _ | exact hI6 _ _ | exact hI5 _ _ | exact hI4 _ _ | exact hI3 _ _ | exact hI2 _ _ | exact hI1 _ _ | exact hI0 _ _ | exact zin_and _ _ | (unfold zin; omega) | (unfold zin at *; omega)) ?_
  refine wp_canon (fun hI13 => ?_)
  refine wp_return (t := 170) rfl rfl ?_
  have e115 : I297 115 = zu I285 115 2 5 115 := t7.2 115 (by decide) (by decide) (by decide) (by decide) (by decide)
  have fj : ∀ j : Int, j ≠ 2 → j ≠ 3 → j ≠ 25 → zu (zu (zu (zu I297 115 3 2) 121 0 3) 120 1 1) 121 1 4 115 j = M 115 j := fun j j1 j2 j3 => by
    rw [zu_ne (by decide), zu_ne (by decide), zu_ne (by decide), zu_ni j2, e115, zu_ni j1]
    exact q3 j j3
  have fz : ∀ j : Int, j ≠ 0 → j ≠ 1 → j ≠ 2 → j ≠ 3 → j ≠ 25 → zu (zu (zu (zu I297 115 3 2) 121 0 3) 120 1 1) 121 1 4 115 j = 0 := fun j i0 i1 j1 j2 j3 => by
    rw [fj j j1 j2 j3, ← hM, zu_ni i1, zu_ni i0]
    exact hI 115 (Nat.le_refl _) j
  have fb : ∀ b : Nat, b ≠ 115 → b ≠ 116 → b ≠ 117 → b ≠ 118 → b ≠ 119 → b ≠ 122 → b ≠ 128 → b ≠ 129 → b ≠ 130 → b ≠ 131 → b ≠ 132 → I297 b = I b := fun b b0 b1 b2 b3 b4 b5 b6 b7 b8 b9 b10 => by
    rw [t7.2 b b1 b2 b3 b4 b5, zu_ne b0, q4 b b0 b6 b7 b8 b9 b10, ← hM, zu_ne b0, zu_ne b0]
  refine ⟨rfl, ⟨⟨⟨?_, ?_, ?_, ?_⟩, fun c c0 c1 => ?_, fun b b0 b1 => ?_⟩, fz 12 (by decide) (by decide) (by decide) (by decide) (by decide), fz 14 (by decide) (by decide) (by decide) (by decide) (by decide), fz 16 (by decide) (by decide) (by decide) (by decide) (by decide), fz 18 (by decide) (by decide) (by decide) (by decide) (by decide), fz 20 (by decide) (by decide) (by decide) (by decide) (by decide), fun b hb => ?_⟩, hW, fun b hb => zapp_out (fun x hx => by have := hL5 x hx; omega)⟩
  · rw [fj 0 (by decide) (by decide) (by decide), ← hM, zu_ni (by decide), zu_eq]; rfl
  · rw [fj 1 (by decide) (by decide) (by decide), ← hM, zu_eq]; rfl
  · rw [zu_ne (by decide), zu_ne (by decide), zu_ne (by decide), zu_ni (by decide), e115, zu_eq]; rfl
  · rw [zu_ne (by decide), zu_ne (by decide), zu_ne (by decide), zu_eq]; rfl
  · have c1 : c < 5 := c1
    have l6 := zg_len c
    have g := q2 c c0 (by omega)
    obtain ⟨⟨w1, w2, w3, w4, w5, w6⟩, w7⟩ := t7.1 c c0 c1
    rw [zu_ne (by decide)] at w1 w4 w5 w6
    rw [zu_ne (by decide), zu_ne (by decide), zu_ne (by decide), zu_ne (by decide), zu_ne (by decide), zu_ne (by decide), zu_ne (by decide), zu_ne (by decide), zu_ne (by decide), zu_ne (by decide), zu_ne (by decide), zu_ne (by decide), zu_ne (by decide), zu_ne (by decide), zu_ne (by decide), zu_ne (by decide), zu_ne (by decide), zu_ne (by decide), zu_ne (by decide), zu_ne (by decide)]
    refine ⟨⟨w1.trans g.1, w2, w3⟩, w4.trans g.2.1, w5.trans g.2.2.1, w6.trans g.2.2.2.1, fun i i0 i1 => ?_⟩
    rw [w7 i i0 (by omega), zu_ne (by decide)]
    exact g.2.2.2.2 i i0 i1
  · have b1 : b < 2 := b1
    rcases (show b = 0 ∨ b = 1 by omega) with rfl | rfl
    · refine ⟨?_, ?_⟩
      · rw [zu_ne (by decide), zu_ni (by decide), zu_ne (by decide), zu_ne (by decide), fb 120 (by decide) (by decide) (by decide) (by decide) (by decide) (by decide) (by decide) (by decide) (by decide) (by decide) (by decide)]
        exact hI 120 (by decide) 0
      · rw [zu_ni (by decide), zu_ne (by decide), zu_eq]; rfl
    · refine ⟨?_, ?_⟩
      · rw [zu_ne (by decide), zu_eq]; rfl
      · rw [zu_eq]; rfl
  · rw [zu_ne (by omega), zu_ne (by omega), zu_ne (by omega), zu_ne (by omega)]
    exact fb b (by omega) (by omega) (by omega) (by omega) (by omega) (by omega) (by omega) (by omega) (by omega) (by omega) (by omega)
