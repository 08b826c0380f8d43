/-! what the reference's contracts ask, behind the class's call -/
section ZS
variable {I I1 : zMem} {R : zRef} {rho1 rho2 : Int → Nat}
theorem j_ch (hi : Inv I R rho1 rho2) (hI : ∀ b : Nat, 115 ≤ b → I1 b = I b) : mCh I1 := by
  have h := iCh_m hi.2.1
  unfold mCh at h ⊢
  rw [hI 115 (by omega), hI 116 (by omega), hI 117 (by omega), hI 118 (by omega), hI 119 (by omega)]
  exact h
theorem j_pl (hi : Inv I R rho1 rho2) (hI : ∀ b : Nat, 115 ≤ b → I1 b = I b) : mPl I1 := by
  have h := iPl_m hi.2.1 hi.2.2.1
  unfold mPl at h ⊢
  rw [hI 115 (by omega), hI 122 (by omega)]
  exact h
theorem j_ka (hi : Inv I R rho1 rho2) (hI : ∀ b : Nat, 115 ≤ b → I1 b = I b) : ∀ c : Int, 0 ≤ c → c < I1 115 2 → 0 ≤ I1 122 c ∧ I1 122 c ≤ 3 := fun c c0 c1 => by
  rw [hI 115 (by omega), hi.2.1.2.2.1.2.2.1] at c1
  rw [hI 122 (by omega), (hi.2.2.1.1 c c0 c1).2.1]
  exact (hi.2.2.1.1 c c0 c1).1.1
theorem j_Q (hi : Inv I R rho1 rho2) (hI : ∀ b : Nat, 115 ≤ b → I1 b = I b) : zLast (I1 115 2) (zQn (I 34 2)) := by
  rw [hI 115 (by omega), hi.2.1.2.2.1.2.2.1]
  exact (zQn_it hi.2.1.1.1).2.1
theorem j_gd (hi : Inv I R rho1 rho2) (hI : ∀ b : Nat, 115 ≤ b → I1 b = I b) : ∀ J, mSt I1 J → mTaken J → zGd (mS J (-4)) := fun J s t => zGd_ag (iAg2 hi.2.1 hi.2.2.1 hI s t) (iGd hi.2.1 hi.2.2.1)
theorem j_clr (hi : Inv I R rho1 rho2) (b : Int) : ∀ J, mSt I J → mTaken J → zGd (zClr (mS J b)) := fun J s t => zGd_ag (bAg (lo := b) (wo := b) (ka := I 65) hi.2.1 (fun c c0 c1 => (hi.2.2.1.1 c c0 c1).2.1) s t (Or.inl rfl)) (bGd hi.2.1.1 b (fun c c0 c1 => (hi.2.2.1.1 c c0 c1).1.1))
theorem j_clr2 (hi : Inv I R rho1 rho2) (b : Int) (Q : Nat) : ∀ I' J r, mBestP I (-4) Q r I' → mSt I' J → mTaken J → zGd (zClr (mS J b)) := fun I' J r h s t => j_clr (Inv_bst h hi) b J s t
theorem j_se (hi : Inv I R rho1 rho2) (hI : ∀ b : Nat, 115 ≤ b → I1 b = I b) : mSeOk I1 := by
  obtain ⟨⟨s1, s1b⟩, s2, s3⟩ := hi.2.2.2.2.2.2.1
  unfold mSeOk
  rw [hI 115 (by omega), hI 124 (by omega), s2]
  refine ⟨s1, fun i i0 i1 => ?_⟩
  rw [(s3 i i0 i1).2.1]
  have := (s1b i i0 i1).2
  have := hi.2.1.1.2.1
  omega
theorem j_fk (hi : Inv I R rho1 rho2) : ∀ c : Int, 0 ≤ c → c < I 34 2 → (0 ≤ I 65 c ∧ I 65 c ≤ 3) ∧ (0 ≤ I 69 c ∧ I 69 c < 64) ∧ (¬ 0 < I 66 c → I 67 c = 0 ∧ I 68 c = 0) := fun c c0 c1 => by
  have n6 := hi.2.1.1.1
  have p := (hi.2.2.1.1 c c0 c1).1
  exact ⟨p.1, (hi.2.2.1.2 c c0 (by omega)).1, p.2.2.1⟩
theorem j_kk (hi : Inv I R rho1 rho2) : ∀ c : Int, 0 ≤ c → c < I 34 2 → 0 ≤ I 65 c ∧ I 65 c ≤ 3 := fun c c0 c1 => (hi.2.2.1.1 c c0 c1).1.1
end ZS
