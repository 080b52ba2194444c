theorem in_m1 {v : Int32} (h1 : ¬ v = -1) (h : r_Ord_within v 0 10000 = 0) : r_Mod_in v (-1) 10000 = 0 := by
  have e0 : (0 : Int32).toInt = 0 := by decide
  have em : (-1 : Int32).toInt = -1 := by decide
  unfold r_Ord_within at h
  unfold r_Mod_in
  by_cases c1 : v < 0
  · by_cases c2 : v < -1
    · rw [if_pos c2]
    · exfalso
      apply h1
      rw [Int32.lt_iff_toInt_lt] at c1 c2
      exact Int32.toInt_inj.mp (by omega)
  · rw [if_neg c1] at h
    have c2 : ¬ v < -1 := by rw [Int32.lt_iff_toInt_lt] at c1 ⊢; omega
    rw [if_neg c2]
    exact h
theorem in_m2 {v : Int32} (h : v = -1 ∨ ¬ r_Ord_within v 0 10000 = 0) : ¬ r_Mod_in v (-1) 10000 = 0 := by
  have e0 : (0 : Int32).toInt = 0 := by decide
  have em : (-1 : Int32).toInt = -1 := by decide
  have e1 : (10000 : Int32).toInt = 10000 := by decide
  have : -1 ≤ v.toInt ∧ v.toInt ≤ 10000 := by
    rcases h with rfl | h
    · rw [em]; omega
    · have := wi_r h
      omega
  show ¬ r_Ord_within v (-1) 10000 = 0
  exact wi_ok (by omega) (by omega)
theorem mt_move (C : TC) (M : MM) (v0 v1 v2 : Int32) (hR : Rel C M) : Rel (r_Law_move C.1 C.2.1 C.2.2.1 C.2.2.2.1 C.2.2.2.2 v0 v1 v2).2 (r_Mod_move M v0 v1 v2) ∧ r_Mod_thrown (r_Mod_move M v0 v1 v2) = (r_Law_move C.1 C.2.1 C.2.2.1 C.2.2.2.1 C.2.2.2.2 v0 v1 v2).1 := by
  obtain ⟨y, x, P, Q, S⟩ := C
  show Rel (r_Law_move y x P Q S v0 v1 v2).2 _ ∧ _ = (r_Law_move y x P Q S v0 v1 v2).1
  have bad : ∀ e : r_Ord_move y x P Q S v0 v1 v2 = (3, 0, y, x, P, Q, S), ∀ f : r_Mod_move M v0 v1 v2 = tM M 1, Rel (r_Law_move y x P Q S v0 v1 v2).2 (r_Mod_move M v0 v1 v2) ∧ r_Mod_thrown (r_Mod_move M v0 v1 v2) = (r_Law_move y x P Q S v0 v1 v2).1 := by
    intro e f
    have g : r_Law_move y x P Q S v0 v1 v2 = (1, (y, x, P, Q, S)) := by unfold r_Law_move; rw [e]; rfl
    rw [g, f]
    exact ⟨hR.mv (KR_tM M 1), rfl⟩
  by_cases c0 : r_Ord_within v0 0 5 = 0
  · exact bad (by unfold r_Ord_move; simp only [lt, if_pos c0]) (by unfold r_Mod_move; simp only [if_pos (show r_Mod_in v0 0 5 = 0 from c0), th1, if_neg e10])
  by_cases c1 : r_Ord_within v1 0 5 = 0
  · exact bad (by unfold r_Ord_move; simp only [lt, if_neg c0, if_pos c1]) (by unfold r_Mod_move; simp only [if_neg (show ¬ r_Mod_in v0 0 5 = 0 from c0), if_pos (show r_Mod_in v1 0 5 = 0 from c1), th1, if_neg e10])
  by_cases c2 : v2 = -1 ∨ ¬ r_Ord_within v2 0 10000 = 0
  · have g : r_Law_move y x P Q S v0 v1 v2 = (0, (tv [0, 0], x, P, Q, tb [S 0, S 1, S 2, S 3, S 4, S 5, S 6, upd (S 7) (v0 * 6 + v1).toNatClampNeg v2])) := by
      unfold r_Law_move r_Ord_move
      simp only [lt, if_neg c0, if_neg c1]
      by_cases c3 : v2 = -1
      · simp only [if_pos c3]; rfl
      · rcases c2 with c2 | c2
        · exact absurd c2 c3
        · simp only [if_neg c3, if_neg c2]; rfl
    have f : r_Mod_move M v0 v1 v2 = r_Mod_forget (tb [tM M 0 0, tM M 0 1, tM M 0 2, tM M 0 3, tM M 0 4, tM M 0 5, tM M 0 6, upd (tM M 0 7) (6 * v0 + v1).toNatClampNeg v2, tM M 0 8, tM M 0 9, tM M 0 10, tM M 0 11, tM M 0 12, tM M 0 13]) := by
      unfold r_Mod_move; simp only [if_neg (show ¬ r_Mod_in v0 0 5 = 0 from c0), if_neg (show ¬ r_Mod_in v1 0 5 = 0 from c1), if_neg (in_m2 c2), th0, if_true]
    rw [g, f]
    obtain ⟨⟨⟨s0, s1, s2, s3, s4, s5, s6, s7⟩, g1, g2, g3, g4, g5, g6, g7⟩, ⟨b1, b2, b3, b4, b5, b6, b7, b8⟩, hZ, hp, -, -, r7, -⟩ := hR
    have g7' : ∀ j, j < 36 → upd (S 7) (v0 * 6 + v1).toNatClampNeg v2 j = upd (M 7) (6 * v0 + v1).toNatClampNeg v2 j := fun j hj => by
      rw [Int32.mul_comm 6 v0]
      unfold upd
      split
      · rfl
      · exact g7 j hj
    have b7' : ∀ j, j < 36 → upd (S 7) (v0 * 6 + v1).toNatClampNeg v2 j = -1 ∨ 0 ≤ (upd (S 7) (v0 * 6 + v1).toNatClampNeg v2 j).toInt := fun j hj => by
      unfold upd
      split
      · rcases c2 with c2 | c2
        · exact Or.inl c2
        · exact Or.inr (by have := wi_r c2; have e0 : (0 : Int32).toInt = 0 := by decide
                           omega)
      · exact b7 j hj
    exact ⟨Rel.forgot (M := M) ⟨⟨s0, s1, s2, s3, s4, s5, s6, s7⟩, g1, g2, g3, g4, g5, g6, g7'⟩ ⟨b1, b2, b3, b4, b5, b6, b7', b8⟩ hZ hp rfl rfl rfl r7, rfl⟩
  · have c3 : ¬ v2 = -1 := fun h => c2 (Or.inl h)
    have c4 : r_Ord_within v2 0 10000 = 0 := Classical.byContradiction fun h => c2 (Or.inr h)
    have g : r_Law_move y x P Q S v0 v1 v2 = (2, (y, x, P, Q, S)) := by unfold r_Law_move r_Ord_move; simp only [lt, if_neg c0, if_neg c1, if_neg c3, if_pos c4]; rfl
    have f : r_Mod_move M v0 v1 v2 = tM M 2 := by unfold r_Mod_move; simp only [if_neg (show ¬ r_Mod_in v0 0 5 = 0 from c0), if_neg (show ¬ r_Mod_in v1 0 5 = 0 from c1), if_pos (in_m1 c3 c4), th2, if_neg e10]
    rw [g, f]
    exact ⟨hR.mv (KR_tM M 2), rfl⟩
