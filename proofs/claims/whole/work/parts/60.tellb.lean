
theorem n6 {n : Nat} (hn : n ≤ 6) : (nI n < 6 ↔ n < 6) ∧ (nI n = 6 ↔ n = 6) := ⟨by rw [show (6 : Int32) = nI 6 from rfl, nI_ltI (by omega) (by decide)], by rw [show (6 : Int32) = nI 6 from rfl, nI_eq (by omega) (by decide)]⟩
set_option maxHeartbeats 1000000 in
theorem mt_heat (C : TC) (M : MM) (z : Nat → Int64) (v0 v1 v2 v3 v4 v5 : Int32) (hR : Rel C M) : Rel (r_Law_heat C.1 C.2.1 C.2.2.1 C.2.2.2.1 C.2.2.2.2 z v0 v1 v2 v3 v4 v5).2.1 (r_Mod_heat M v0 v1 v2 v3 v4 v5).2 ∧ r_Mod_thrown (r_Mod_heat M v0 v1 v2 v3 v4 v5).2 = (r_Law_heat C.1 C.2.1 C.2.2.1 C.2.2.2.1 C.2.2.2.2 z v0 v1 v2 v3 v4 v5).1 ∧ ((r_Law_heat C.1 C.2.1 C.2.2.1 C.2.2.2.1 C.2.2.2.2 z v0 v1 v2 v3 v4 v5).1 = 0 → (r_Law_heat C.1 C.2.1 C.2.2.1 C.2.2.2.1 C.2.2.2.2 z v0 v1 v2 v3 v4 v5).2.2 0 = (r_Mod_heat M v0 v1 v2 v3 v4 v5).1.toInt64) := by
  obtain ⟨y, x, P, Q, S⟩ := C
  show Rel (r_Law_heat y x P Q S z v0 v1 v2 v3 v4 v5).2.1 _ ∧ _ = (r_Law_heat y x P Q S z v0 v1 v2 v3 v4 v5).1 ∧ ((r_Law_heat y x P Q S z v0 v1 v2 v3 v4 v5).1 = 0 → (r_Law_heat y x P Q S z v0 v1 v2 v3 v4 v5).2.2 0 = _)
  have eN : M 0 1 = S 0 0 := hR.1.1.1.symm
  obtain ⟨n, hn, hN⟩ : ∃ n : Nat, n ≤ 6 ∧ S 0 0 = nI n := hR.2.1.1
  obtain ⟨l1, l2⟩ := n6 hn
  by_cases cn : n = 6
  · have c0 : ¬ S 0 0 < 6 := by rw [hN, l1]; omega
    have c1 : M 0 1 = 6 := by rw [eN, hN, l2]; exact cn
    have g : r_Law_heat y x P Q S z v0 v1 v2 v3 v4 v5 = (1, (y, x, P, Q, S), z) := by unfold r_Law_heat r_Ord_heat; simp only [lt, if_neg c0]; rfl
    have f : r_Mod_heat M v0 v1 v2 v3 v4 v5 = (0, tM M 1) := by unfold r_Mod_heat; simp only [if_pos c1, th1, if_neg e10]
    rw [g, f]
    exact ⟨hR.mv (KR_tM M 1), rfl, fun h => absurd h e10⟩
  have k0 : S 0 0 < 6 := by rw [hN, l1]; omega
  have k1 : ¬ M 0 1 = 6 := by rw [eN, hN, l2]; exact cn
  have bad : ∀ e : r_Ord_heat y x P Q S v0 v1 v2 v3 v4 v5 = (2, 0, y, x, P, Q, S), ∀ f : r_Mod_heat M v0 v1 v2 v3 v4 v5 = (0, tM M 2), Rel (r_Law_heat y x P Q S z v0 v1 v2 v3 v4 v5).2.1 (r_Mod_heat M v0 v1 v2 v3 v4 v5).2 ∧ r_Mod_thrown (r_Mod_heat M v0 v1 v2 v3 v4 v5).2 = (r_Law_heat y x P Q S z v0 v1 v2 v3 v4 v5).1 ∧ ((r_Law_heat y x P Q S z v0 v1 v2 v3 v4 v5).1 = 0 → (r_Law_heat y x P Q S z v0 v1 v2 v3 v4 v5).2.2 0 = (r_Mod_heat M v0 v1 v2 v3 v4 v5).1.toInt64) := by
    intro e f
    have g : r_Law_heat y x P Q S z v0 v1 v2 v3 v4 v5 = (2, (y, x, P, Q, S), z) := by unfold r_Law_heat; rw [e]; rfl
    rw [g, f]
    exact ⟨hR.mv (KR_tM M 2), rfl, fun h => absurd h (by decide : ¬ (2 : Int32) = 0)⟩
  by_cases c0 : r_Ord_within v0 0 5 = 0
  · exact bad (by unfold r_Ord_heat; simp only [lt, if_pos k0, if_pos c0, if_true, if_neg e10, ite_self]) (by unfold r_Mod_heat; simp only [if_neg k1, if_pos (show r_Mod_in v0 0 5 = 0 from c0), th2, if_neg e10])
  by_cases c1 : r_Ord_within v1 100 2000 = 0
  · exact bad (by unfold r_Ord_heat; simp only [lt, if_pos k0, if_neg c0, if_pos c1, if_true, if_neg e10, ite_self]) (by unfold r_Mod_heat; simp only [if_neg k1, if_neg (show ¬ r_Mod_in v0 0 5 = 0 from c0), if_pos (show r_Mod_in v1 100 2000 = 0 from c1), th2, if_neg e10])
  by_cases c2 : r_Ord_within v2 1 500 = 0
  · exact bad (by unfold r_Ord_heat; simp only [lt, if_pos k0, if_neg c0, if_neg c1, if_pos c2, if_true, if_neg e10, ite_self]) (by unfold r_Mod_heat; simp only [if_neg k1, if_neg (show ¬ r_Mod_in v0 0 5 = 0 from c0), if_neg (show ¬ r_Mod_in v1 100 2000 = 0 from c1), if_pos (show r_Mod_in v2 1 500 = 0 from c2), th2, if_neg e10])
  by_cases c3 : r_Ord_within v3 1 500 = 0
  · exact bad (by unfold r_Ord_heat; simp only [lt, if_pos k0, if_neg c0, if_neg c1, if_neg c2, if_pos c3, if_true, if_neg e10, ite_self]) (by unfold r_Mod_heat; simp only [if_neg k1, if_neg (show ¬ r_Mod_in v0 0 5 = 0 from c0), if_neg (show ¬ r_Mod_in v1 100 2000 = 0 from c1), if_neg (show ¬ r_Mod_in v2 1 500 = 0 from c2), if_pos (show r_Mod_in v3 1 500 = 0 from c3), th2, if_neg e10])
  by_cases c4 : r_Ord_within v4 0 10000 = 0
  · exact bad (by unfold r_Ord_heat; simp only [lt, if_pos k0, if_neg c0, if_neg c1, if_neg c2, if_neg c3, if_pos (show r_Ord_isDue v4 = 0 from c4), if_true, if_neg e10, ite_self]) (by unfold r_Mod_heat; simp only [if_neg k1, if_neg (show ¬ r_Mod_in v0 0 5 = 0 from c0), if_neg (show ¬ r_Mod_in v1 100 2000 = 0 from c1), if_neg (show ¬ r_Mod_in v2 1 500 = 0 from c2), if_neg (show ¬ r_Mod_in v3 1 500 = 0 from c3), if_pos (show r_Mod_in v4 0 10000 = 0 from c4), th2, if_neg e10])
  by_cases c5 : r_Ord_within v5 1 3 = 0
  · exact bad (by unfold r_Ord_heat; simp only [lt, if_pos k0, if_neg c0, if_neg c1, if_neg c2, if_neg c3, if_neg (show ¬ r_Ord_isDue v4 = 0 from c4), if_pos c5, if_true, if_neg e10, ite_self]) (by unfold r_Mod_heat; simp only [if_neg k1, if_neg (show ¬ r_Mod_in v0 0 5 = 0 from c0), if_neg (show ¬ r_Mod_in v1 100 2000 = 0 from c1), if_neg (show ¬ r_Mod_in v2 1 500 = 0 from c2), if_neg (show ¬ r_Mod_in v3 1 500 = 0 from c3), if_neg (show ¬ r_Mod_in v4 0 10000 = 0 from c4), if_pos (show r_Mod_in v5 1 3 = 0 from c5), th2, if_neg e10])
  have ead : r_Shop_add S v0 v1 v2 v3 v4 v5 = (S 0 0 + 1 - 1, tb [tv [S 0 0 + 1, S 0 1, S 0 2, S 0 3, S 0 4, S 0 5, S 0 6, S 0 7], upd (S 1) (S 0 0).toNatClampNeg v0, upd (S 2) (S 0 0).toNatClampNeg v1, upd (S 3) (S 0 0).toNatClampNeg v2, upd (S 4) (S 0 0).toNatClampNeg v3, upd (S 5) (S 0 0).toNatClampNeg v4, upd (S 6) (S 0 0).toNatClampNeg v5, S 7]) := by
    unfold r_Shop_add; simp only [if_pos k0, lt]
  have g : r_Law_heat y x P Q S z v0 v1 v2 v3 v4 v5 = (0, (tv [0, 0], x, P, Q, tb [tv [S 0 0 + 1, S 0 1, S 0 2, S 0 3, S 0 4, S 0 5, S 0 6, S 0 7], upd (S 1) (S 0 0).toNatClampNeg v0, upd (S 2) (S 0 0).toNatClampNeg v1, upd (S 3) (S 0 0).toNatClampNeg v2, upd (S 4) (S 0 0).toNatClampNeg v3, upd (S 5) (S 0 0).toNatClampNeg v4, upd (S 6) (S 0 0).toNatClampNeg v5, S 7]), vp_updL z (0 : Int32).toNatClampNeg (S 0 0 + 1 - 1).toInt64) := by
    unfold r_Law_heat r_Ord_heat; simp only [lt, if_pos k0, if_neg c0, if_neg c1, if_neg c2, if_neg c3, if_neg (show ¬ r_Ord_isDue v4 = 0 from c4), if_neg c5, if_neg e10, ead]; rfl
  have f : r_Mod_heat M v0 v1 v2 v3 v4 v5 = (M 0 1 + 1 - 1, r_Mod_forget (tb [tv [tM M 0 0 0, tM M 0 0 1 + 1, tM M 0 0 2, tM M 0 0 3, tM M 0 0 4, tM M 0 0 5, tM M 0 0 6, tM M 0 0 7, tM M 0 0 8, tM M 0 0 9, tM M 0 0 10, tM M 0 0 11, tM M 0 0 12, tM M 0 0 13, tM M 0 0 14, tM M 0 0 15], upd (tM M 0 1) (tM M 0 0 1).toNatClampNeg v0, upd (tM M 0 2) (tM M 0 0 1).toNatClampNeg v1, upd (tM M 0 3) (tM M 0 0 1).toNatClampNeg v2, upd (tM M 0 4) (tM M 0 0 1).toNatClampNeg v3, upd (tM M 0 5) (tM M 0 0 1).toNatClampNeg v4, upd (tM M 0 6) (tM M 0 0 1).toNatClampNeg v5, tM M 0 7, tM M 0 8, tM M 0 9, tM M 0 10, tM M 0 11, tM M 0 12, tM M 0 13])) := by
    unfold r_Mod_heat; simp only [if_neg k1, if_neg (show ¬ r_Mod_in v0 0 5 = 0 from c0), if_neg (show ¬ r_Mod_in v1 100 2000 = 0 from c1), if_neg (show ¬ r_Mod_in v2 1 500 = 0 from c2), if_neg (show ¬ r_Mod_in v3 1 500 = 0 from c3), if_neg (show ¬ r_Mod_in v4 0 10000 = 0 from c4), if_neg (show ¬ r_Mod_in v5 1 3 = 0 from c5), th0, if_true]; rfl
  rw [g, f]
  obtain ⟨⟨⟨s0, s1, s2, s3, s4, s5, s6, s7⟩, g1, g2, g3, g4, g5, g6, g7⟩, ⟨b1, b2, b3, b4, b5, b6, b7, b8⟩, hZ, hp, -, -, r7, -⟩ := hR
  have hw0 := wi_6 c0
  have hw1 := wi_r c1
  have hw2 := wi_r c2
  have hw3 := wi_r c3
  have hw4 := wi_r c4
  have e0 : (0 : Int32).toInt = 0 := by decide
  have e1 : (1 : Int32).toInt = 1 := by decide
  have e5 : (500 : Int32).toInt = 500 := by decide
  have e2 : (2000 : Int32).toInt = 2000 := by decide
  have e100 : (100 : Int32).toInt = 100 := by decide
  have e4 : (10000 : Int32).toInt = 10000 := by decide
  rw [e100, e2] at hw1
  rw [e1, e5] at hw2 hw3
  rw [e0, e4] at hw4
  have s0' : S 0 0 = M 0 1 := s0
  have q1 : S 1 = M 1 := g1
  have q2 : S 2 = M 2 := g2
  have q3 : S 3 = M 3 := g3
  have q4 : S 4 = M 4 := g4
  have q5 : S 5 = M 5 := g5
  have q6 : S 6 = M 6 := g6
  have hS' : SM (tb [tv [S 0 0 + 1, S 0 1, S 0 2, S 0 3, S 0 4, S 0 5, S 0 6, S 0 7], upd (S 1) (S 0 0).toNatClampNeg v0, upd (S 2) (S 0 0).toNatClampNeg v1, upd (S 3) (S 0 0).toNatClampNeg v2, upd (S 4) (S 0 0).toNatClampNeg v3, upd (S 5) (S 0 0).toNatClampNeg v4, upd (S 6) (S 0 0).toNatClampNeg v5, S 7]) (r_Mod_forget (tb [tv [tM M 0 0 0, tM M 0 0 1 + 1, tM M 0 0 2, tM M 0 0 3, tM M 0 0 4, tM M 0 0 5, tM M 0 0 6, tM M 0 0 7, tM M 0 0 8, tM M 0 0 9, tM M 0 0 10, tM M 0 0 11, tM M 0 0 12, tM M 0 0 13, tM M 0 0 14, tM M 0 0 15], upd (tM M 0 1) (tM M 0 0 1).toNatClampNeg v0, upd (tM M 0 2) (tM M 0 0 1).toNatClampNeg v1, upd (tM M 0 3) (tM M 0 0 1).toNatClampNeg v2, upd (tM M 0 4) (tM M 0 0 1).toNatClampNeg v3, upd (tM M 0 5) (tM M 0 0 1).toNatClampNeg v4, upd (tM M 0 6) (tM M 0 0 1).toNatClampNeg v5, tM M 0 7, tM M 0 8, tM M 0 9, tM M 0 10, tM M 0 11, tM M 0 12, tM M 0 13])) := by
    refine ⟨⟨?_, s1, s2, s3, s4, s5, s6, s7⟩, ?_, ?_, ?_, ?_, ?_, ?_, g7⟩
    · show S 0 0 + 1 = M 0 1 + 1
      rw [s0']
    · show upd (S 1) (S 0 0).toNatClampNeg v0 = upd (M 1) (M 0 1).toNatClampNeg v0
      rw [s0', q1]
    · show upd (S 2) (S 0 0).toNatClampNeg v1 = upd (M 2) (M 0 1).toNatClampNeg v1
      rw [s0', q2]
    · show upd (S 3) (S 0 0).toNatClampNeg v2 = upd (M 3) (M 0 1).toNatClampNeg v2
      rw [s0', q3]
    · show upd (S 4) (S 0 0).toNatClampNeg v3 = upd (M 4) (M 0 1).toNatClampNeg v3
      rw [s0', q4]
    · show upd (S 5) (S 0 0).toNatClampNeg v4 = upd (M 5) (M 0 1).toNatClampNeg v4
      rw [s0', q5]
    · show upd (S 6) (S 0 0).toNatClampNeg v5 = upd (M 6) (M 0 1).toNatClampNeg v5
      rw [s0', q6]
  refine ⟨Rel.forgot (M := M) hS' ⟨⟨n + 1, by omega, ?_⟩, upd_all (R := fun z => vp_in z 6) b2 hw0, upd_all (R := fun z => 0 ≤ z.toInt ∧ z.toInt ≤ 2000) b3 (by omega), upd_all (R := fun z => 0 ≤ z.toInt ∧ z.toInt ≤ 500) b4 (by omega), upd_all (R := fun z => 0 ≤ z.toInt ∧ z.toInt ≤ 500) b5 (by omega), upd_all (R := fun z => 0 ≤ z.toInt ∧ z.toInt ≤ 10000) b6 (by omega), b7, b8⟩ hZ hp rfl rfl rfl r7, rfl, fun _ => ?_⟩
  · show S 0 0 + 1 = nI (n + 1)
    rw [hN]; exact nI_1 n
  · show (S 0 0 + 1 - 1).toInt64 = (M 0 1 + 1 - 1).toInt64
    rw [s0']
theorem mt_planned (C : TC) (M : MM) (z : Nat → Int64) (v0 : Int32) (hR : Rel C M) : Rel (r_Law_planned C.1 C.2.1 C.2.2.1 C.2.2.2.1 C.2.2.2.2 z v0).2.1 (r_Mod_planned M v0).2 ∧ r_Mod_thrown (r_Mod_planned M v0).2 = (r_Law_planned C.1 C.2.1 C.2.2.1 C.2.2.2.1 C.2.2.2.2 z v0).1 ∧ ((r_Law_planned C.1 C.2.1 C.2.2.1 C.2.2.2.1 C.2.2.2.2 z v0).1 = 0 → (r_Law_planned C.1 C.2.1 C.2.2.1 C.2.2.2.1 C.2.2.2.2 z v0).2.2 0 = (r_Mod_planned M v0).1.toInt64) := by
  obtain ⟨y, x, P, Q, S⟩ := C
  show Rel (r_Law_planned y x P Q S z v0).2.1 _ ∧ _ = (r_Law_planned y x P Q S z v0).1 ∧ ((r_Law_planned y x P Q S z v0).1 = 0 → (r_Law_planned y x P Q S z v0).2.2 0 = _)
  have e9 : y 1 = M 0 9 := hR.2.2.2.2.1.2
  by_cases c0 : r_Ord_within v0 0 1 = 0
  · have g : r_Law_planned y x P Q S z v0 = (1, (y, x, P, Q, S), z) := by unfold r_Law_planned r_Ord_planned; simp only [lt, if_pos c0]; rfl
    have f : r_Mod_planned M v0 = (0, tM M 1) := by unfold r_Mod_planned; simp only [if_pos (show r_Mod_in v0 0 1 = 0 from c0), th1, if_neg e10]
    rw [g, f]
    exact ⟨hR.mv (KR_tM M 1), rfl, fun h => absurd h e10⟩
  by_cases c1 : M 0 9 = 0
  · have g : r_Law_planned y x P Q S z v0 = (2, (y, x, P, Q, S), z) := by unfold r_Law_planned r_Ord_planned; simp only [lt, if_neg c0, if_pos (show y 1 = 0 from e9.trans c1)]; rfl
    have f : r_Mod_planned M v0 = (0, tM M 2) := by unfold r_Mod_planned; simp only [if_neg (show ¬ r_Mod_in v0 0 1 = 0 from c0), if_pos c1, th2, if_neg e10]
    rw [g, f]
    exact ⟨hR.mv (KR_tM M 2), rfl, fun h => absurd h (by decide : ¬ (2 : Int32) = 0)⟩
  obtain ⟨p1, p2⟩ := hR.2.2.2.2.2.1 c1
  have p1' : M 0 11 = x 1 := p1
  have p2' : M 0 10 = if x 2 = 0 then 1 else 0 := p2
  have hy : ¬ y 1 = 0 := by rw [e9]; exact c1
  have hw := wi_r c0
  have e0 : (0 : Int32).toInt = 0 := by decide
  have e1 : (1 : Int32).toInt = 1 := by decide
  rw [e0, e1] at hw
  by_cases c2 : v0 = 0
  · have hv : ¬ v0 = 1 := by rw [c2]; decide
    by_cases c3 : x 2 = 0
    · have g : r_Law_planned y x P Q S z v0 = (0, (y, x, P, Q, S), vp_updL z (0 : Int32).toNatClampNeg (1 : Int32).toInt64) := by unfold r_Law_planned r_Ord_planned; simp only [lt, if_neg c0, if_neg hy, if_pos c2, if_pos c3]; rfl
      rw [if_pos c3] at p2'
      have f : r_Mod_planned M v0 = (1, tM M 0) := by
        unfold r_Mod_planned; simp only [if_neg (show ¬ r_Mod_in v0 0 1 = 0 from c0), if_neg c1, th0, if_true, if_neg hv]
        exact if_neg (show ¬ M 0 10 = 0 by rw [p2']; decide)
      rw [g, f]
      exact ⟨hR.mv (KR_tM M 0), rfl, fun _ => rfl⟩
    · have g : r_Law_planned y x P Q S z v0 = (0, (y, x, P, Q, S), vp_updL z (0 : Int32).toNatClampNeg (0 : Int32).toInt64) := by unfold r_Law_planned r_Ord_planned; simp only [lt, if_neg c0, if_neg hy, if_pos c2, if_neg c3]; rfl
      rw [if_neg c3] at p2'
      have f : r_Mod_planned M v0 = (0, tM M 0) := by
        unfold r_Mod_planned; simp only [if_neg (show ¬ r_Mod_in v0 0 1 = 0 from c0), if_neg c1, th0, if_true, if_neg hv]
        exact if_pos (show M 0 10 = 0 from p2')
      rw [g, f]
      exact ⟨hR.mv (KR_tM M 0), rfl, fun _ => rfl⟩
  · have hv : v0 = 1 := Int32.toInt_inj.mp (by
      rw [e1]
      have : ¬ v0.toInt = 0 := fun h => c2 (Int32.toInt_inj.mp (by rw [h, e0]))
      omega)
    have g : r_Law_planned y x P Q S z v0 = (0, (y, x, P, Q, S), vp_updL z (0 : Int32).toNatClampNeg (x 1).toInt64) := by unfold r_Law_planned r_Ord_planned; simp only [lt, if_neg c0, if_neg hy, if_neg c2]; rfl
    have f : r_Mod_planned M v0 = (M 0 11, tM M 0) := by
      unfold r_Mod_planned; simp only [if_neg (show ¬ r_Mod_in v0 0 1 = 0 from c0), if_neg c1, th0, if_true, if_pos hv]
      rfl
    rw [g, f]
    refine ⟨hR.mv (KR_tM M 0), rfl, fun _ => ?_⟩
    show (x 1).toInt64 = (M 0 11).toInt64
    rw [p1']
