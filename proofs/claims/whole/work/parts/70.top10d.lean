/-! the reference's own methods: the chip taken, laid -/
def mTc1 (I J : zMem) (a : Int) : Prop := J 122 a = I 128 a ∧ J 122 (6 + a) = 0 ∧ J 122 (12 + a) = 0 ∧ J 116 a = I 129 a ∧ J 117 a = I 130 a ∧ J 118 a = I 131 a
def mTc2 (I J : zMem) (a k : Int) : Prop := ∀ i : Int, 0 ≤ i → i < k → J 119 (6 * a + i) = I 132 (6 * a + i)
def mTcF (I J : zMem) : Prop := ∀ b : Nat, b ≠ 116 → b ≠ 117 → b ≠ 118 → b ≠ 119 → b ≠ 122 → J b = I b
def mTc (I J : zMem) (c : Int) : Prop := (∀ a : Int, 0 ≤ a → a < c → mTc1 I J a ∧ mTc2 I J a 6) ∧ mTcF I J
set_option maxHeartbeats 4000000 in
set_option maxRecDepth 100000 in
theorem c_X10_takeCores {G : zG} {d n : Nat} {I : zMem} {R : zRef} (hW : zWir n R) (hn : 143 ≤ n) (hco : 0 ≤ I 115 2 ∧ I 115 2 ≤ 6) : MT G mX10_takeCores d 0 0 [zR 115] n I R (zP0 (fun I' R' => mTc I I' (I 115 2) ∧ R' = R)) := by
  refine MT.of (by decide +kernel) tX10_takeCores_ok (Nat.le_of_ble_eq_true rfl) (fun hI0 => ?_)
  have hIo := hI0
  have outer : ∀ (m : Nat) (c : Int) (J : zMem) (x2 : Option zV), 0 ≤ c → c ≤ I 115 2 → (I 115 2 - c).toNat = m → mTc I J c → WP G mX10_takeCores d 0 0 0 0 2 [some (zR 115), some (zI c), x2] [] n J R (zP0 (fun I' R' => mTc I I' (I 115 2) ∧ R' = R)) := by
    intro m
    induction m with
    | zero =>
      intro c J x2 c0 c1 cm ht
      have e115 : J 115 = I 115 := ht.2 115 (by decide) (by decide) (by decide) (by decide) (by decide)
      refine wp_canon (fun hI0 => ?_)
      refine wp_iload_n (t := 2) rfl rfl ?_
      refine wp_aload_n (t := 3) rfl rfl ?_
      refine wp_getI (t := 4) (ji := 2) rfl fX10_115 rfl rfl (by omega) (by first | rfl | assumption) ?_
      rw [e115]
      refine wp_icmp_ge (t := 5) (tgt := 122) rfl (by decide) (by first | assumption | exact hI0 _ _ | exact zin_and _ _ | (unfold zin; omega) | (unfold zin at *; omega)) (by first | assumption | exact hI0 _ _ | exact zin_and _ _ | (unfold zin; omega) | (unfold zin at *; omega)) (fun h7 => ?_) (fun h7 => ?_)
      · refine wp_return (t := 79) rfl rfl ?_
        have ce : c = I 115 2 := by omega
        rw [ce] at ht
        exact ⟨rfl, ht, rfl⟩
      · exact absurd h7 (by omega)
    | succ m ih =>
      intro c J x2 c0 c1 cm ht
      have inner : ∀ (q : Nat) (k : Int) (K : zMem), 0 ≤ k → k ≤ 6 → (6 - k).toNat = q → mTc I K c → mTc1 I K c → mTc2 I K c k → WP G mX10_takeCores d 0 0 0 0 82 [some (zR 115), some (zI c), some (zI k)] [] n K R (zP0 (fun I' R' => mTc I I' (I 115 2) ∧ R' = R)) := by
        intro q
        induction q with
        | zero =>
          intro k K k0 k1 km ht t1 t2
          refine wp_canon (fun hI0 => ?_)
          refine wp_iload_n (t := 56) rfl rfl ?_
          refine wp_bipush (t := 57) rfl (by decide) ?_
          refine wp_icmp_ge (t := 58) (tgt := 116) rfl (by decide) (by first | assumption | exact hI0 _ _ | exact zin_and _ _ | (unfold zin; omega) | (unfold zin at *; omega)) (by first | assumption | exact hI0 _ _ | exact zin_and _ _ | (unfold zin; omega) | (unfold zin at *; omega)) (fun h85 => ?_) (fun h85 => ?_)
          · refine wp_iinc (t := 77) rfl rfl (by decide) rfl ?_
            refine wp_goto (t := 78) (tgt := 2) rfl (by decide) ?_
            refine ih (c + 1) K _ (by omega) (by omega) (by omega) ⟨fun a a0 a1 => ?_, ht.2⟩
            by_cases e : a = c
            · rw [e]
              exact ⟨t1, fun i i0 i1 => t2 i i0 (by omega)⟩
            · exact ht.1 a a0 (by omega)
          · exact absurd h85 (by omega)
        | succ q ihq =>
          intro k K k0 k1 km ht t1 t2
          have e132 : K 132 = I 132 := ht.2 132 (by decide) (by decide) (by decide) (by decide) (by decide)
          refine wp_canon (fun hI0 => ?_)
          refine wp_iload_n (t := 56) rfl rfl ?_
          refine wp_bipush (t := 57) rfl (by decide) ?_
          refine wp_icmp_ge (t := 58) (tgt := 116) rfl (by decide) (by first | assumption | exact hI0 _ _ | exact zin_and _ _ | (unfold zin; omega) | (unfold zin at *; omega)) (by first | assumption | exact hI0 _ _ | exact zin_and _ _ | (unfold zin; omega) | (unfold zin at *; omega)) (fun h85 => ?_) (fun h85 => ?_)
          · exact absurd h85 (by omega)
          · refine wp_aload_n (t := 59) rfl rfl ?_
            refine wp_getR (t := 60) (ji := 7) rfl fX10_19 rfl rfl (by omega) (by first | rfl | assumption) (by first | exact hW _ _ _ (by omega) rfl | assumption) ?_
            refine wp_bipush (t := 61) rfl (by decide) ?_
            refine wp_iload_n (t := 62) rfl rfl ?_
            refine wp_imul (t := 63) rfl ?_
            refine wp_iload_n (t := 64) rfl rfl ?_
            refine wp_iadd (t := 65) rfl ?_
            refine wp_aload_n (t := 66) rfl rfl ?_
            refine wp_getR (t := 67) (ji := 31) rfl fX10_58 rfl rfl (by omega) (by first | rfl | assumption) (by first | exact hW _ _ _ (by omega) rfl | assumption) ?_
            refine wp_bipush (t := 68) rfl (by decide) ?_
            refine wp_iload_n (t := 69) rfl rfl ?_
            refine wp_imul (t := 70) rfl ?_
            refine wp_iload_n (t := 71) rfl rfl ?_
            refine wp_iadd (t := 72) rfl ?_
            refine wp_iaload (t := 73) rfl (by omega) (by first | rfl | assumption) (by omega) (by omega) (by omega) ?_
            rw [e132]
            refine wp_iastore (t := 74) rfl (by omega) (by first | rfl | assumption) (by omega) (by omega) (by omega) (hIo _ _) ?_
            refine wp_canon (fun hI1 => ?_)
            refine wp_iinc (t := 75) rfl rfl (by decide) rfl ?_
            refine wp_goto (t := 76) (tgt := 82) rfl (by decide) ?_
            refine ihq (k + 1) _ (by omega) (by omega) (by omega) ⟨fun a a0 a1 => ?_, fun b b1 b2 b3 b4 b5 => by rw [zu_ne b4]; exact ht.2 b b1 b2 b3 b4 b5⟩ ?_ (fun i i0 i1 => ?_)
            · refine ⟨?_, fun i i0 i1 => ?_⟩
              · unfold mTc1
                rw [zu_ne (by decide), zu_ne (by decide), zu_ne (by decide), zu_ne (by decide)]
                exact (ht.1 a a0 a1).1
              · rw [zu_ni (by omega)]
                exact (ht.1 a a0 a1).2 i i0 i1
            · unfold mTc1
              rw [zu_ne (by decide), zu_ne (by decide), zu_ne (by decide), zu_ne (by decide)]
              exact t1
            · by_cases e : i = k
              · rw [e, zu_eq]
              · rw [zu_ni (by omega)]
                exact t2 i i0 (by omega)
      have e115 : J 115 = I 115 := ht.2 115 (by decide) (by decide) (by decide) (by decide) (by decide)
      have e128 : J 128 = I 128 := ht.2 128 (by decide) (by decide) (by decide) (by decide) (by decide)
      have e129 : J 129 = I 129 := ht.2 129 (by decide) (by decide) (by decide) (by decide) (by decide)
      have e130 : J 130 = I 130 := ht.2 130 (by decide) (by decide) (by decide) (by decide) (by decide)
      have e131 : J 131 = I 131 := ht.2 131 (by decide) (by decide) (by decide) (by decide) (by decide)
      refine wp_canon (fun hI0 => ?_)
      refine wp_iload_n (t := 2) rfl rfl ?_
      refine wp_aload_n (t := 3) rfl rfl ?_
      refine wp_getI (t := 4) (ji := 2) rfl fX10_115 rfl rfl (by omega) (by first | rfl | assumption) ?_
      rw [e115]
      refine wp_icmp_ge (t := 5) (tgt := 122) rfl (by decide) (by first | assumption | exact hI0 _ _ | exact zin_and _ _ | (unfold zin; omega) | (unfold zin at *; omega)) (by first | assumption | exact hI0 _ _ | exact zin_and _ _ | (unfold zin; omega) | (unfold zin at *; omega)) (fun h7 => ?_) (fun h7 => ?_)
      · exact absurd h7 (by omega)
      · refine wp_aload_n (t := 6) rfl rfl ?_
        refine wp_getR (t := 7) (ji := 10) rfl fX10_28 rfl rfl (by omega) (by first | rfl | assumption) (by first | exact hW _ _ _ (by omega) rfl | assumption) ?_
        refine wp_iconst (t := 8) rfl ?_
        refine wp_iload_n (t := 9) rfl rfl ?_
        refine wp_iadd (t := 10) rfl ?_
        refine wp_aload_n (t := 11) rfl rfl ?_
        refine wp_getR (t := 12) (ji := 27) rfl fX10_46 rfl rfl (by omega) (by first | rfl | assumption) (by first | exact hW _ _ _ (by omega) rfl | assumption) ?_
        refine wp_iload_n (t := 13) rfl rfl ?_
        refine wp_iaload (t := 14) rfl (by omega) (by first | rfl | assumption) (by omega) (by omega) (by omega) ?_
        rw [e128, Int.zero_add]
        refine wp_iastore (t := 15) rfl (by omega) (by first | rfl | assumption) (by omega) (by omega) (by omega) (hIo _ _) ?_
        refine wp_canon (fun hI1 => ?_)
        refine wp_aload_n (t := 16) rfl rfl ?_
        refine wp_getR (t := 17) (ji := 10) rfl fX10_28 rfl rfl (by omega) (by first | rfl | assumption) (by first | exact hW _ _ _ (by omega) rfl | assumption) ?_
        refine wp_bipush (t := 18) rfl (by decide) ?_
        refine wp_iload_n (t := 19) rfl rfl ?_
        refine wp_iadd (t := 20) rfl ?_
        refine wp_iconst (t := 21) rfl ?_
        refine wp_iastore (t := 22) rfl (by omega) (by first | rfl | assumption) (by omega) (by omega) (by omega) (by first | assumption | exact hI1 _ _ | exact hI0 _ _ | exact zin_and _ _ | (unfold zin; omega) | (unfold zin at *; omega)) ?_
        refine wp_canon (fun hI2 => ?_)
        refine wp_aload_n (t := 23) rfl rfl ?_
        refine wp_getR (t := 24) (ji := 10) rfl fX10_28 rfl rfl (by omega) (by first | rfl | assumption) (by first | exact hW _ _ _ (by omega) rfl | assumption) ?_
        refine wp_bipush (t := 25) rfl (by decide) ?_
        refine wp_iload_n (t := 26) rfl rfl ?_
        refine wp_iadd (t := 27) rfl ?_
        refine wp_iconst (t := 28) rfl ?_
        refine wp_iastore (t := 29) rfl (by omega) (by first | rfl | assumption) (by omega) (by omega) (by omega) (by first | assumption | exact hI2 _ _ | exact hI1 _ _ | exact hI0 _ _ | exact zin_and _ _ | (unfold zin; omega) | (unfold zin at *; omega)) ?_
        refine wp_canon (fun hI3 => ?_)
        refine wp_aload_n (t := 30) rfl rfl ?_
        refine wp_getR (t := 31) (ji := 4) rfl fX10_7 rfl rfl (by omega) (by first | rfl | assumption) (by first | exact hW _ _ _ (by omega) rfl | assumption) ?_
        refine wp_iload_n (t := 32) rfl rfl ?_
        refine wp_aload_n (t := 33) rfl rfl ?_
        refine wp_getR (t := 34) (ji := 28) rfl fX10_49 rfl rfl (by omega) (by first | rfl | assumption) (by first | exact hW _ _ _ (by omega) rfl | assumption) ?_
        refine wp_iload_n (t := 35) rfl rfl ?_
        refine wp_iaload (t := 36) rfl (by omega) (by first | rfl | assumption) (by omega) (by omega) (by omega) ?_
        rw [zu_ne (by decide), zu_ne (by decide), zu_ne (by decide), e129]
        refine wp_iastore (t := 37) rfl (by omega) (by first | rfl | assumption) (by omega) (by omega) (by omega) (hIo _ _) ?_
        refine wp_canon (fun hI4 => ?_)
        refine wp_aload_n (t := 38) rfl rfl ?_
        refine wp_getR (t := 39) (ji := 5) rfl fX10_13 rfl rfl (by omega) (by first | rfl | assumption) (by first | exact hW _ _ _ (by omega) rfl | assumption) ?_
        refine wp_iload_n (t := 40) rfl rfl ?_
        refine wp_aload_n (t := 41) rfl rfl ?_
        refine wp_getR (t := 42) (ji := 29) rfl fX10_52 rfl rfl (by omega) (by first | rfl | assumption) (by first | exact hW _ _ _ (by omega) rfl | assumption) ?_
        refine wp_iload_n (t := 43) rfl rfl ?_
        refine wp_iaload (t := 44) rfl (by omega) (by first | rfl | assumption) (by omega) (by omega) (by omega) ?_
        rw [zu_ne (by decide), zu_ne (by decide), zu_ne (by decide), zu_ne (by decide), e130]
        refine wp_iastore (t := 45) rfl (by omega) (by first | rfl | assumption) (by omega) (by omega) (by omega) (hIo _ _) ?_
        refine wp_canon (fun hI5 => ?_)
        refine wp_aload_n (t := 46) rfl rfl ?_
        refine wp_getR (t := 47) (ji := 6) rfl fX10_16 rfl rfl (by omega) (by first | rfl | assumption) (by first | exact hW _ _ _ (by omega) rfl | assumption) ?_
        refine wp_iload_n (t := 48) rfl rfl ?_
        refine wp_aload_n (t := 49) rfl rfl ?_
        refine wp_getR (t := 50) (ji := 30) rfl fX10_55 rfl rfl (by omega) (by first | rfl | assumption) (by first | exact hW _ _ _ (by omega) rfl | assumption) ?_
        refine wp_iload_n (t := 51) rfl rfl ?_
        refine wp_iaload (t := 52) rfl (by omega) (by first | rfl | assumption) (by omega) (by omega) (by omega) ?_
        rw [zu_ne (by decide), zu_ne (by decide), zu_ne (by decide), zu_ne (by decide), zu_ne (by decide), e131]
        refine wp_iastore (t := 53) rfl (by omega) (by first | rfl | assumption) (by omega) (by omega) (by omega) (hIo _ _) ?_
        refine wp_canon (fun hI6 => ?_)
        refine wp_iconst (t := 54) rfl ?_
        refine wp_istore_n (t := 55) rfl (by decide) rfl ?_
        refine inner _ 0 _ (by omega) (by omega) rfl ⟨fun a a0 a1 => ⟨?_, fun i i0 i1 => ?_⟩, fun b b1 b2 b3 b4 b5 => ?_⟩ ?_ (fun i i0 i1 => absurd i1 (by omega))
        · have q := (ht.1 a a0 a1).1
          refine ⟨?_, ?_, ?_, ?_, ?_, ?_⟩
          · rw [zu_ne (by decide), zu_ne (by decide), zu_ne (by decide), zu_ni (by omega), zu_ni (by omega), zu_ni (by omega)]; exact q.1
          · rw [zu_ne (by decide), zu_ne (by decide), zu_ne (by decide), zu_ni (by omega), zu_ni (by omega), zu_ni (by omega)]; exact q.2.1
          · rw [zu_ne (by decide), zu_ne (by decide), zu_ne (by decide), zu_ni (by omega), zu_ni (by omega), zu_ni (by omega)]; exact q.2.2.1
          · rw [zu_ne (by decide), zu_ne (by decide), zu_ni (by omega), zu_ne (by decide), zu_ne (by decide), zu_ne (by decide)]; exact q.2.2.2.1
          · rw [zu_ne (by decide), zu_ni (by omega), zu_ne (by decide), zu_ne (by decide), zu_ne (by decide), zu_ne (by decide)]; exact q.2.2.2.2.1
          · rw [zu_ni (by omega), zu_ne (by decide), zu_ne (by decide), zu_ne (by decide), zu_ne (by decide), zu_ne (by decide)]; exact q.2.2.2.2.2
        · rw [zu_ne (by decide), zu_ne (by decide), zu_ne (by decide), zu_ne (by decide), zu_ne (by decide), zu_ne (by decide)]; exact (ht.1 a a0 a1).2 i i0 i1
        · rw [zu_ne b3, zu_ne b2, zu_ne b1, zu_ne b5, zu_ne b5, zu_ne b5]; exact ht.2 b b1 b2 b3 b4 b5
        · refine ⟨?_, ?_, ?_, ?_, ?_, ?_⟩
          · rw [zu_ne (by decide), zu_ne (by decide), zu_ne (by decide), zu_ni (by omega), zu_ni (by omega), zu_eq]
          · rw [zu_ne (by decide), zu_ne (by decide), zu_ne (by decide), zu_ni (by omega), zu_eq]
          · rw [zu_ne (by decide), zu_ne (by decide), zu_ne (by decide), zu_eq]
          · rw [zu_ne (by decide), zu_ne (by decide), zu_eq]
          · rw [zu_ne (by decide), zu_eq]
          · rw [zu_eq]
  refine wp_ls (ls' := [some (zR 115), none, none]) rfl ?_
  refine wp_iconst (t := 0) rfl ?_
  refine wp_istore_n (t := 1) rfl (by decide) rfl ?_
  exact outer _ 0 I _ (by omega) (by omega) rfl ⟨fun a a0 a1 => absurd a1 (by omega), fun b _ _ _ _ _ => rfl⟩
