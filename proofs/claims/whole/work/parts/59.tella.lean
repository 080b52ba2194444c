/-! the mathematics: costs, rules, due, move, heat, planned, on both sides -/
theorem mt_costs (C : TC) (M : MM) (v0 v1 : Int32) (hR : Rel C M) : Rel (r_Law_costs C.1 C.2.1 C.2.2.1 C.2.2.2.1 C.2.2.2.2 v0 v1).2 (r_Mod_costs M v0 v1) ∧ r_Mod_thrown (r_Mod_costs M v0 v1) = (r_Law_costs C.1 C.2.1 C.2.2.1 C.2.2.2.1 C.2.2.2.2 v0 v1).1 := by
  obtain ⟨y, x, P, Q, S⟩ := C
  show Rel (r_Law_costs y x P Q S v0 v1).2 _ ∧ _ = (r_Law_costs y x P Q S v0 v1).1
  have bad : ∀ e : r_Ord_costs y x P Q S v0 v1 = (2, 0, y, x, P, Q, S), ∀ f : r_Mod_costs M v0 v1 = tM M 1, Rel (r_Law_costs y x P Q S v0 v1).2 (r_Mod_costs M v0 v1) ∧ r_Mod_thrown (r_Mod_costs M v0 v1) = (r_Law_costs y x P Q S v0 v1).1 := by
    intro e f
    have g : r_Law_costs y x P Q S v0 v1 = (1, (y, x, P, Q, S)) := by unfold r_Law_costs; rw [e]; rfl
    rw [g, f]
    exact ⟨hR.mv (KR_tM M 1), rfl⟩
  by_cases c0 : r_Ord_within v0 0 100000 = 0
  · exact bad (by unfold r_Ord_costs; simp only [lt, if_pos c0]) (by unfold r_Mod_costs; simp only [if_pos (show r_Mod_in v0 0 100000 = 0 from c0), th1, if_neg e10])
  by_cases c1 : r_Ord_within v1 0 1000 = 0
  · exact bad (by unfold r_Ord_costs; simp only [lt, if_neg c0, if_pos c1]) (by unfold r_Mod_costs; simp only [if_neg (show ¬ r_Mod_in v0 0 100000 = 0 from c0), if_pos (show r_Mod_in v1 0 1000 = 0 from c1), th1, if_neg e10])
  have g : r_Law_costs y x P Q S v0 v1 = (0, (tv [0, 0], x, P, Q, tb [tv [S 0 0, S 0 1, S 0 2, S 0 3, S 0 4, S 0 5, v0, v1], S 1, S 2, S 3, S 4, S 5, S 6, S 7])) := by
    unfold r_Law_costs r_Ord_costs; simp only [lt, if_neg c0, if_neg c1]; rfl
  have f : r_Mod_costs M v0 v1 = r_Mod_forget (tb [tv [tM M 0 0 0, tM M 0 0 1, tM M 0 0 2, tM M 0 0 3, tM M 0 0 4, tM M 0 0 5, tM M 0 0 6, v0, v1, tM M 0 0 9, tM M 0 0 10, tM M 0 0 11, tM M 0 0 12, tM M 0 0 13, tM M 0 0 14, tM M 0 0 15], tM M 0 1, tM M 0 2, tM M 0 3, tM M 0 4, tM M 0 5, tM M 0 6, tM M 0 7, tM M 0 8, tM M 0 9, tM M 0 10, tM M 0 11, tM M 0 12, tM M 0 13]) := by
    unfold r_Mod_costs; simp only [if_neg (show ¬ r_Mod_in v0 0 100000 = 0 from c0), if_neg (show ¬ r_Mod_in v1 0 1000 = 0 from c1), th0, if_true]
  rw [g, f]
  obtain ⟨⟨⟨s0, s1, s2, s3, s4, s5, s6, s7⟩, g1, g2, g3, g4, g5, g6, g7⟩, hB, hZ, hp, -, -, r7, -⟩ := hR
  exact ⟨Rel.forgot (M := M) ⟨⟨s0, s1, s2, s3, s4, s5, rfl, rfl⟩, g1, g2, g3, g4, g5, g6, g7⟩ hB hZ hp rfl rfl rfl r7, rfl⟩
theorem mt_rules (C : TC) (M : MM) (v0 v1 v2 v3 v4 : Int32) (hR : Rel C M) : Rel (r_Law_rules C.1 C.2.1 C.2.2.1 C.2.2.2.1 C.2.2.2.2 v0 v1 v2 v3 v4).2 (r_Mod_rules M v0 v1 v2 v3 v4) ∧ r_Mod_thrown (r_Mod_rules M v0 v1 v2 v3 v4) = (r_Law_rules C.1 C.2.1 C.2.2.1 C.2.2.2.1 C.2.2.2.2 v0 v1 v2 v3 v4).1 := by
  obtain ⟨y, x, P, Q, S⟩ := C
  show Rel (r_Law_rules y x P Q S v0 v1 v2 v3 v4).2 _ ∧ _ = (r_Law_rules y x P Q S v0 v1 v2 v3 v4).1
  have bad : ∀ e : r_Ord_rules y x P Q S v0 v1 v2 v3 v4 = (2, 0, y, x, P, Q, S), ∀ f : r_Mod_rules M v0 v1 v2 v3 v4 = tM M 1, Rel (r_Law_rules y x P Q S v0 v1 v2 v3 v4).2 (r_Mod_rules M v0 v1 v2 v3 v4) ∧ r_Mod_thrown (r_Mod_rules M v0 v1 v2 v3 v4) = (r_Law_rules y x P Q S v0 v1 v2 v3 v4).1 := by
    intro e f
    have g : r_Law_rules y x P Q S v0 v1 v2 v3 v4 = (1, (y, x, P, Q, S)) := by unfold r_Law_rules; rw [e]; rfl
    rw [g, f]
    exact ⟨hR.mv (KR_tM M 1), rfl⟩
  by_cases c0 : r_Ord_within v0 0 1000 = 0
  · exact bad (by unfold r_Ord_rules; simp only [lt, if_pos c0, if_true]) (by unfold r_Mod_rules; simp only [if_pos (show r_Mod_in v0 0 1000 = 0 from c0), if_true, th1, if_neg e10])
  by_cases c1 : r_Ord_within v1 0 500 = 0
  · exact bad (by unfold r_Ord_rules; simp only [lt, if_neg c0, if_pos c1, if_true]) (by unfold r_Mod_rules; simp only [if_neg (show ¬ r_Mod_in v0 0 1000 = 0 from c0), if_pos (show r_Mod_in v1 0 500 = 0 from c1), if_true, th1, if_neg e10])
  by_cases c2 : r_Ord_within v2 0 500 = 0
  · exact bad (by unfold r_Ord_rules; simp only [lt, if_neg c0, if_neg c1, if_pos c2, if_true]) (by unfold r_Mod_rules; simp only [if_neg (show ¬ r_Mod_in v0 0 1000 = 0 from c0), if_neg (show ¬ r_Mod_in v1 0 500 = 0 from c1), if_pos (show r_Mod_in v2 0 500 = 0 from c2), if_true, th1, if_neg e10])
  by_cases c3 : r_Ord_within v3 1 20 = 0
  · exact bad (by unfold r_Ord_rules; simp only [lt, if_neg c0, if_neg c1, if_neg c2, if_pos c3, if_neg e10]) (by unfold r_Mod_rules; simp only [if_neg (show ¬ r_Mod_in v0 0 1000 = 0 from c0), if_neg (show ¬ r_Mod_in v1 0 500 = 0 from c1), if_neg (show ¬ r_Mod_in v2 0 500 = 0 from c2), if_pos (show r_Mod_in v3 1 20 = 0 from c3), if_true, th1, if_neg e10])
  by_cases c4 : r_Ord_within v4 0 2000 = 0
  · exact bad (by unfold r_Ord_rules; simp only [lt, if_neg c0, if_neg c1, if_neg c2, if_neg c3, if_pos c4, if_neg e10]) (by unfold r_Mod_rules; simp only [if_neg (show ¬ r_Mod_in v0 0 1000 = 0 from c0), if_neg (show ¬ r_Mod_in v1 0 500 = 0 from c1), if_neg (show ¬ r_Mod_in v2 0 500 = 0 from c2), if_neg (show ¬ r_Mod_in v3 1 20 = 0 from c3), if_pos (show r_Mod_in v4 0 2000 = 0 from c4), if_true, th1, if_neg e10])
  have g : r_Law_rules y x P Q S v0 v1 v2 v3 v4 = (0, (tv [0, 0], x, P, Q, tb [tv [S 0 0, v0, v1, v2, v3, v4, S 0 6, S 0 7], S 1, S 2, S 3, S 4, S 5, S 6, S 7])) := by
    unfold r_Law_rules r_Ord_rules; simp only [lt, if_neg c0, if_neg c1, if_neg c2, if_neg c3, if_neg c4, if_neg e10]; rfl
  have f : r_Mod_rules M v0 v1 v2 v3 v4 = r_Mod_forget (tb [tv [tM M 0 0 0, tM M 0 0 1, v0, v1, v2, v3, v4, tM M 0 0 7, tM M 0 0 8, tM M 0 0 9, tM M 0 0 10, tM M 0 0 11, tM M 0 0 12, tM M 0 0 13, tM M 0 0 14, tM M 0 0 15], tM M 0 1, tM M 0 2, tM M 0 3, tM M 0 4, tM M 0 5, tM M 0 6, tM M 0 7, tM M 0 8, tM M 0 9, tM M 0 10, tM M 0 11, tM M 0 12, tM M 0 13]) := by
    unfold r_Mod_rules; simp only [if_neg (show ¬ r_Mod_in v0 0 1000 = 0 from c0), if_neg (show ¬ r_Mod_in v1 0 500 = 0 from c1), if_neg (show ¬ r_Mod_in v2 0 500 = 0 from c2), if_neg (show ¬ r_Mod_in v3 1 20 = 0 from c3), if_neg (show ¬ r_Mod_in v4 0 2000 = 0 from c4), if_neg e10, th0, if_true]
  rw [g, f]
  obtain ⟨⟨⟨s0, s1, s2, s3, s4, s5, s6, s7⟩, g1, g2, g3, g4, g5, g6, g7⟩, ⟨b1, b2, b3, b4, b5, b6, b7, b8⟩, hZ, hp, -, -, r7, -⟩ := hR
  have hv1 := wi_r c1
  have e0 : (0 : Int32).toInt = 0 := by decide
  have e5 : (500 : Int32).toInt = 500 := by decide
  rw [e0, e5] at hv1
  exact ⟨Rel.forgot (M := M) ⟨⟨s0, rfl, rfl, rfl, rfl, rfl, s6, s7⟩, g1, g2, g3, g4, g5, g6, g7⟩ ⟨b1, b2, b3, b4, b5, b6, b7, hv1⟩ hZ hp rfl rfl rfl r7, rfl⟩
theorem upd_all {f : Nat → Int32} {k : Nat} {x : Int32} {R : Int32 → Prop} (hf : ∀ j, R (f j)) (hx : R x) : ∀ j, R (upd f k x j) := by
  intro j
  unfold upd
  split
  · exact hx
  · exact hf j
theorem mt_due (C : TC) (M : MM) (v0 v1 : Int32) (hR : Rel C M) : Rel (r_Law_due C.1 C.2.1 C.2.2.1 C.2.2.2.1 C.2.2.2.2 v0 v1).2 (r_Mod_due M v0 v1) ∧ r_Mod_thrown (r_Mod_due M v0 v1) = (r_Law_due C.1 C.2.1 C.2.2.1 C.2.2.2.1 C.2.2.2.2 v0 v1).1 := by
  obtain ⟨y, x, P, Q, S⟩ := C
  show Rel (r_Law_due y x P Q S v0 v1).2 _ ∧ _ = (r_Law_due y x P Q S v0 v1).1
  have eN : M 0 1 = S 0 0 := hR.1.1.1.symm
  by_cases c0 : r_Ord_within v0 0 (S 0 0 - 1) = 0
  · have g : r_Law_due y x P Q S v0 v1 = (1, (y, x, P, Q, S)) := by unfold r_Law_due r_Ord_due; simp only [lt, if_pos c0]; rfl
    have f : r_Mod_due M v0 v1 = tM M 1 := by unfold r_Mod_due; simp only [eN, if_pos (show r_Mod_in v0 0 (S 0 0 - 1) = 0 from c0), th1, if_neg e10]
    rw [g, f]
    exact ⟨hR.mv (KR_tM M 1), rfl⟩
  by_cases c1 : r_Ord_within v1 0 10000 = 0
  · have g : r_Law_due y x P Q S v0 v1 = (2, (y, x, P, Q, S)) := by unfold r_Law_due r_Ord_due; simp only [lt, if_neg c0, if_pos (show r_Ord_isDue v1 = 0 from c1)]; rfl
    have f : r_Mod_due M v0 v1 = tM M 2 := by unfold r_Mod_due; simp only [eN, if_neg (show ¬ r_Mod_in v0 0 (S 0 0 - 1) = 0 from c0), if_pos (show r_Mod_in v1 0 10000 = 0 from c1), th2, if_neg e10]
    rw [g, f]
    exact ⟨hR.mv (KR_tM M 2), rfl⟩
  have g : r_Law_due y x P Q S v0 v1 = (0, (tv [0, 0], x, P, Q, tb [S 0, S 1, S 2, S 3, S 4, upd (S 5) v0.toNatClampNeg v1, S 6, S 7])) := by
    unfold r_Law_due r_Ord_due; simp only [lt, if_neg c0, if_neg (show ¬ r_Ord_isDue v1 = 0 from c1)]; rfl
  have f : r_Mod_due M v0 v1 = r_Mod_forget (tb [tM M 0 0, tM M 0 1, tM M 0 2, tM M 0 3, tM M 0 4, upd (tM M 0 5) v0.toNatClampNeg v1, tM M 0 6, tM M 0 7, tM M 0 8, tM M 0 9, tM M 0 10, tM M 0 11, tM M 0 12, tM M 0 13]) := by
    unfold r_Mod_due; simp only [eN, if_neg (show ¬ r_Mod_in v0 0 (S 0 0 - 1) = 0 from c0), if_neg (show ¬ r_Mod_in v1 0 10000 = 0 from c1), th0, if_true]
  rw [g, f]
  obtain ⟨⟨⟨s0, s1, s2, s3, s4, s5, s6, s7⟩, g1, g2, g3, g4, g5, g6, g7⟩, ⟨b1, b2, b3, b4, b5, b6, b7, b8⟩, hZ, hp, -, -, r7, -⟩ := hR
  have hv1 := wi_r c1
  have e0 : (0 : Int32).toInt = 0 := by decide
  have e5 : (10000 : Int32).toInt = 10000 := by decide
  rw [e0, e5] at hv1
  have g5' : upd (S 5) v0.toNatClampNeg v1 = upd (M 5) v0.toNatClampNeg v1 := by rw [show S 5 = M 5 from g5]
  exact ⟨Rel.forgot (M := M) ⟨⟨s0, s1, s2, s3, s4, s5, s6, s7⟩, g1, g2, g3, g4, g5', g6, g7⟩ ⟨b1, b2, b3, b4, b5, upd_all (R := fun z => 0 ≤ z.toInt ∧ z.toInt ≤ 10000) b6 hv1, b7, b8⟩ hZ hp rfl rfl rfl r7, rfl⟩
