/-! the mathematics: told and step, on both sides -/
theorem wi_nI {v : Int32} {n : Nat} (hn : n ≤ 6) (h : ¬ r_Ord_within v 0 (nI n - 1) = 0) : ∃ k, k < n ∧ v = nI k := by
  have hw := wi_r h
  have e0 : (0 : Int32).toInt = 0 := by decide
  by_cases h0 : n = 0
  · subst h0
    have e1 : (nI 0 - 1).toInt = -1 := by decide
    omega
  · have e1 : nI n - 1 = nI (n - 1) := pk_sub (by omega : 1 ≤ n)
    rw [e1, nI_toInt (by omega), e0] at hw
    obtain ⟨j, hj, e⟩ := nI_of (x := v) (by rw [Int32.lt_iff_toInt_lt, e0]; omega)
    rw [e, nI_toInt hj] at hw
    exact ⟨j, by omega, e⟩
theorem v_cases {v : Int32} {m : Nat} (hm : m ≤ 6) (h : ¬ r_Ord_within v 0 (nI m) = 0) : ∃ k, k ≤ m ∧ v = nI k := by
  have hw := wi_r h
  have e0 : (0 : Int32).toInt = 0 := by decide
  rw [nI_toInt (by omega), e0] at hw
  obtain ⟨j, hj, e⟩ := nI_of (x := v) (by rw [Int32.lt_iff_toInt_lt, e0]; omega)
  rw [e, nI_toInt hj] at hw
  exact ⟨j, by omega, e⟩
theorem Rel.ord {y x : Nat → Int32} {P Q S M : MM} (hR : Rel (y, x, P, Q, S) M) (h12 : ¬ M 0 12 = 0) : ∃ n : Nat, n ≤ 6 ∧ S 0 0 = nI n ∧ CV n (M 8) n ∧ PV S Q (M 8) n := by
  obtain ⟨n, hn, hN⟩ : ∃ n : Nat, n ≤ 6 ∧ S 0 0 = nI n := hR.2.1.1
  obtain ⟨a, b⟩ := hR.2.2.2.2.2.2.2 h12 n hn hN
  exact ⟨n, hn, hN, a, b⟩
theorem Rel.tp {y x : Nat → Int32} {P Q S M : MM} (hR : Rel (y, x, P, Q, S) M) {n : Nat} (hn : n ≤ 6) (hN : S 0 0 = nI n) (hV : PV S Q (M 8) n) : Rel (y, x, P, Q, S) (r_Mod_takePlan (tM M 0)) ∧ r_Mod_takePlan (tM M 0) 0 0 = 0 ∧ r_Mod_takePlan (tM M 0) 3 = S 3 ∧ (∀ j, j < n → r_Mod_takePlan (tM M 0) 9 j = M 8 j ∧ r_Mod_takePlan (tM M 0) 10 j = Q 3 j ∧ r_Mod_takePlan (tM M 0) 11 j = Q 4 j ∧ r_Mod_takePlan (tM M 0) 12 j = Q 5 j ∧ r_Mod_takePlan (tM M 0) 13 j = Q 6 j) ∧ r_Mod_takePlan (tM M 0) 0 13 = Q 10 n ∧ r_Mod_takePlan (tM M 0) 0 14 = Q 8 n ∧ r_Mod_takePlan (tM M 0) 0 15 = Q 9 n ∧ r_Mod_costNow (r_Mod_takePlan (tM M 0)) = r_Plan_costOf S Q (nI n) := by
  have hK := KR_tM M 0
  have e8 : tM M 0 8 = M 8 := rfl
  have hS0 : SM S (tM M 0) := SM.of_KR hR.1 hK
  obtain ⟨t1, t2, t3, t4, t5, t6⟩ := tp_all (Q := Q) hn hN hS0 hR.2.1 hR.2.2.1.2 (by rw [e8]; exact hV)
  refine ⟨hR.mv (t1.KR.tr hK), t1.1.1, ?_, ?_, t3, t4, t5, t6⟩
  · exact t1.2.2.2.1.trans (show M 3 = S 3 from hR.1.2.2.2.1.symm)
  · rw [e8] at t2; exact t2
theorem nIl (k : Nat) (h : k = 0 ∨ k = 1 ∨ k = 2 ∨ k = 3 ∨ k = 4 ∨ k = 5 ∨ k = 6) : nI k = nI k := rfl
set_option maxHeartbeats 1000000 in
theorem mt_told (C : TC) (M : MM) (z : Nat → Int64) (v0 : Int32) (hR : Rel C M) : Rel (r_Law_told C.1 C.2.1 C.2.2.1 C.2.2.2.1 C.2.2.2.2 z v0).2.1 (r_Mod_told M v0).2 ∧ r_Mod_thrown (r_Mod_told M v0).2 = (r_Law_told C.1 C.2.1 C.2.2.1 C.2.2.2.1 C.2.2.2.2 z v0).1 ∧ ((r_Law_told C.1 C.2.1 C.2.2.1 C.2.2.2.1 C.2.2.2.2 z v0).1 = 0 → (r_Law_told C.1 C.2.1 C.2.2.1 C.2.2.2.1 C.2.2.2.2 z v0).2.2 0 = (r_Mod_told M v0).1.toInt64) := by
  obtain ⟨y, x, P, Q, S⟩ := C
  show Rel (r_Law_told y x P Q S z v0).2.1 _ ∧ _ = (r_Law_told y x P Q S z v0).1 ∧ ((r_Law_told y x P Q S z v0).1 = 0 → (r_Law_told y x P Q S z v0).2.2 0 = _)
  have e12 : y 0 = M 0 12 := hR.2.2.2.2.1.1
  by_cases c0 : r_Ord_within v0 0 3 = 0
  · have g : r_Law_told y x P Q S z v0 = (1, (y, x, P, Q, S), z) := by unfold r_Law_told r_Ord_told; simp only [lt, if_pos c0]; rfl
    have f : r_Mod_told M v0 = (0, tM M 1) := by unfold r_Mod_told; simp only [if_pos (show r_Mod_in v0 0 3 = 0 from c0), th1, if_neg e10]
    rw [g, f]
    exact ⟨hR.mv (KR_tM M 1), rfl, fun h => absurd h e10⟩
  by_cases c1 : M 0 12 = 0
  · have g : r_Law_told y x P Q S z v0 = (2, (y, x, P, Q, S), z) := by unfold r_Law_told r_Ord_told; simp only [lt, if_neg c0, if_pos (show y 0 = 0 from e12.trans c1)]; rfl
    have f : r_Mod_told M v0 = (0, tM M 2) := by unfold r_Mod_told; simp only [if_neg (show ¬ r_Mod_in v0 0 3 = 0 from c0), if_pos c1, th2, if_neg e10]
    rw [g, f]
    exact ⟨hR.mv (KR_tM M 2), rfl, fun h => absurd h (by decide : ¬ (2 : Int32) = 0)⟩
  have hy : ¬ y 0 = 0 := by rw [e12]; exact c1
  obtain ⟨n, hn, hN, hC, hV⟩ := hR.ord c1
  obtain ⟨t0, tz, t3, t9, t13, t14, t15, tc⟩ := hR.tp hn hN hV
  have eN : (S 0 0).toNatClampNeg = n := by rw [hN]; exact nI_clamp (by omega)
  have fin : ∀ w : Int32, r_Ord_told y x P Q S v0 = (0, w, y, x, P, Q, S) → r_Mod_told M v0 = (w, r_Mod_takePlan (tM M 0)) → Rel (r_Law_told y x P Q S z v0).2.1 (r_Mod_told M v0).2 ∧ r_Mod_thrown (r_Mod_told M v0).2 = (r_Law_told y x P Q S z v0).1 ∧ ((r_Law_told y x P Q S z v0).1 = 0 → (r_Law_told y x P Q S z v0).2.2 0 = (r_Mod_told M v0).1.toInt64) := by
    intro w e f
    have g : r_Law_told y x P Q S z v0 = (0, (y, x, P, Q, S), vp_updL z (0 : Int32).toNatClampNeg w.toInt64) := by unfold r_Law_told; rw [e]; rfl
    rw [g, f]
    exact ⟨t0, tz, fun _ => rfl⟩
  by_cases d0 : v0 = 0
  · exact fin (r_Plan_costOf S Q (S 0 0)) (by unfold r_Ord_told; simp only [lt, if_neg c0, if_neg hy, if_pos d0]) (by unfold r_Mod_told; simp only [if_neg (show ¬ r_Mod_in v0 0 3 = 0 from c0), if_neg c1, th0, if_true, if_pos d0, tc, hN])
  by_cases d1 : v0 = 1
  · exact fin (Q 8 n) (by unfold r_Ord_told; simp only [lt, if_neg c0, if_neg hy, if_neg d0, if_pos d1, eN]) (by unfold r_Mod_told; simp only [if_neg (show ¬ r_Mod_in v0 0 3 = 0 from c0), if_neg c1, th0, if_true, if_neg d0, if_pos d1, t14])
  by_cases d2 : v0 = 2
  · exact fin (Q 9 n) (by unfold r_Ord_told; simp only [lt, if_neg c0, if_neg hy, if_neg d0, if_neg d1, if_pos d2, eN]) (by unfold r_Mod_told; simp only [if_neg (show ¬ r_Mod_in v0 0 3 = 0 from c0), if_neg c1, th0, if_true, if_neg d0, if_neg d1, if_pos d2, t15])
  · exact fin (Q 10 n) (by unfold r_Ord_told; simp only [lt, if_neg c0, if_neg hy, if_neg d0, if_neg d1, if_neg d2, eN]) (by unfold r_Mod_told; simp only [if_neg (show ¬ r_Mod_in v0 0 3 = 0 from c0), if_neg c1, th0, if_true, if_neg d0, if_neg d1, if_neg d2, t13])
set_option maxHeartbeats 1000000 in
theorem mt_step (C : TC) (M : MM) (z : Nat → Int64) (v0 v1 : Int32) (hR : Rel C M) : Rel (r_Law_step C.1 C.2.1 C.2.2.1 C.2.2.2.1 C.2.2.2.2 z v0 v1).2.1 (r_Mod_step M v0 v1).2 ∧ r_Mod_thrown (r_Mod_step M v0 v1).2 = (r_Law_step C.1 C.2.1 C.2.2.1 C.2.2.2.1 C.2.2.2.2 z v0 v1).1 ∧ ((r_Law_step C.1 C.2.1 C.2.2.1 C.2.2.2.1 C.2.2.2.2 z v0 v1).1 = 0 → (r_Law_step C.1 C.2.1 C.2.2.1 C.2.2.2.1 C.2.2.2.2 z v0 v1).2.2 0 = (r_Mod_step M v0 v1).1.toInt64) := by
  obtain ⟨y, x, P, Q, S⟩ := C
  show Rel (r_Law_step y x P Q S z v0 v1).2.1 _ ∧ _ = (r_Law_step y x P Q S z v0 v1).1 ∧ ((r_Law_step y x P Q S z v0 v1).1 = 0 → (r_Law_step y x P Q S z v0 v1).2.2 0 = _)
  have e12 : y 0 = M 0 12 := hR.2.2.2.2.1.1
  have eN0 : M 0 1 = S 0 0 := hR.1.1.1.symm
  by_cases c1 : M 0 12 = 0
  · have g : r_Law_step y x P Q S z v0 v1 = (2, (y, x, P, Q, S), z) := by unfold r_Law_step r_Ord_step; simp only [lt, if_pos (show y 0 = 0 from e12.trans c1)]; rfl
    have f : r_Mod_step M v0 v1 = (0, tM M 2) := by unfold r_Mod_step; simp only [if_pos c1, th2, if_neg e10]
    rw [g, f]
    exact ⟨hR.mv (KR_tM M 2), rfl, fun h => absurd h (by decide : ¬ (2 : Int32) = 0)⟩
  have hy : ¬ y 0 = 0 := by rw [e12]; exact c1
  by_cases c2 : r_Ord_within v0 0 (S 0 0 - 1) = 0
  · have m2 : r_Mod_in v0 0 (M 0 1 - 1) = 0 := by rw [eN0]; exact c2
    have g : r_Law_step y x P Q S z v0 v1 = (1, (y, x, P, Q, S), z) := by unfold r_Law_step r_Ord_step; simp only [lt, if_neg hy, if_pos c2]; rfl
    have f : r_Mod_step M v0 v1 = (0, tM M 1) := by unfold r_Mod_step; simp only [if_neg c1, if_pos m2, th1, if_neg e10]
    rw [g, f]
    exact ⟨hR.mv (KR_tM M 1), rfl, fun h => absurd h e10⟩
  have m2 : ¬ r_Mod_in v0 0 (M 0 1 - 1) = 0 := by rw [eN0]; exact c2
  by_cases c3 : r_Ord_within v1 0 6 = 0
  · have g : r_Law_step y x P Q S z v0 v1 = (1, (y, x, P, Q, S), z) := by unfold r_Law_step r_Ord_step; simp only [lt, if_neg hy, if_neg c2, if_pos c3]; rfl
    have f : r_Mod_step M v0 v1 = (0, tM M 1) := by unfold r_Mod_step; simp only [if_neg c1, if_neg m2, if_pos (show r_Mod_in v1 0 6 = 0 from c3), th1, if_neg e10]
    rw [g, f]
    exact ⟨hR.mv (KR_tM M 1), rfl, fun h => absurd h e10⟩
  have m3 : ¬ r_Mod_in v1 0 6 = 0 := c3
  obtain ⟨n, hn, hN, hC, hV⟩ := hR.ord c1
  obtain ⟨t0, tz, t3, t9, t13, t14, t15, tc⟩ := hR.tp hn hN hV
  obtain ⟨k, hk, hv0⟩ := wi_nI hn (by rw [← hN]; exact c2)
  have ecl : v0.toNatClampNeg = k := by rw [hv0]; exact nI_clamp (by omega)
  obtain ⟨u9, u10, u11, u12, u13⟩ := t9 k hk
  obtain ⟨p0, p1, p2, p3, p4, p5, p6, -⟩ := hV k hk
  have fin : ∀ w : Int32, r_Ord_step y x P Q S v0 v1 = (0, w, y, x, P, Q, S) → r_Mod_step M v0 v1 = (w, r_Mod_takePlan (tM M 0)) → Rel (r_Law_step y x P Q S z v0 v1).2.1 (r_Mod_step M v0 v1).2 ∧ r_Mod_thrown (r_Mod_step M v0 v1).2 = (r_Law_step y x P Q S z v0 v1).1 ∧ ((r_Law_step y x P Q S z v0 v1).1 = 0 → (r_Law_step y x P Q S z v0 v1).2.2 0 = (r_Mod_step M v0 v1).1.toInt64) := by
    intro w e f
    have g : r_Law_step y x P Q S z v0 v1 = (0, (y, x, P, Q, S), vp_updL z (0 : Int32).toNatClampNeg w.toInt64) := by unfold r_Law_step; rw [e]; rfl
    rw [g, f]
    exact ⟨t0, tz, fun _ => rfl⟩
  by_cases d0 : v1 = 0
  · have hle : ¬ 2 ≤ v1 := by rw [d0]; decide
    exact fin (Q 0 k) (by unfold r_Ord_step; simp only [lt, if_neg hy, if_neg c2, if_neg c3, if_pos d0, ecl]) (by unfold r_Mod_step; simp only [if_neg c1, if_neg m2, if_neg m3, th0, if_true, if_neg hle, if_pos d0, ecl, u9]; rw [p0])
  by_cases d1 : v1 = 1
  · have hle : ¬ 2 ≤ v1 := by rw [d1]; decide
    exact fin (Q 1 k) (by unfold r_Ord_step; simp only [lt, if_neg hy, if_neg c2, if_neg c3, if_neg d0, if_pos d1, ecl]) (by unfold r_Mod_step; simp only [if_neg c1, if_neg m2, if_neg m3, th0, if_true, if_neg hle, if_neg d0, ecl, u9]; rw [p1])
  have hle : 2 ≤ v1 := by
    obtain ⟨j, hj, e⟩ := v_cases (m := 6) (by omega) c3
    rw [e] at d0 d1 ⊢
    have j0 : ¬ j = 0 := fun h => d0 (by rw [h]; rfl)
    have j1 : ¬ j = 1 := fun h => d1 (by rw [h]; rfl)
    exact nI_le (a := 2) (by omega) (by omega)
  by_cases d2 : v1 = 2
  · exact fin (Q 2 k) (by unfold r_Ord_step; simp only [lt, if_neg hy, if_neg c2, if_neg c3, if_neg d0, if_neg d1, if_pos d2, ecl]) (by unfold r_Mod_step; simp only [if_neg c1, if_neg m2, if_neg m3, th0, if_true, if_pos hle, if_pos d2, ecl, u9, u10, t3]; rw [p3, ← p0, Int32.add_sub_cancel])
  by_cases d3 : v1 = 3
  · exact fin (Q 3 k) (by unfold r_Ord_step; simp only [lt, if_neg hy, if_neg c2, if_neg c3, if_neg d0, if_neg d1, if_neg d2, if_pos d3, ecl]) (by unfold r_Mod_step; simp only [if_neg c1, if_neg m2, if_neg m3, th0, if_true, if_pos hle, if_neg d2, if_pos d3, ecl, u10])
  by_cases d4 : v1 = 4
  · exact fin (Q 4 k) (by unfold r_Ord_step; simp only [lt, if_neg hy, if_neg c2, if_neg c3, if_neg d0, if_neg d1, if_neg d2, if_neg d3, if_pos d4, ecl]) (by unfold r_Mod_step; simp only [if_neg c1, if_neg m2, if_neg m3, th0, if_true, if_pos hle, if_neg d2, if_neg d3, if_pos d4, ecl, u11])
  by_cases d5 : v1 = 5
  · exact fin (Q 5 k) (by unfold r_Ord_step; simp only [lt, if_neg hy, if_neg c2, if_neg c3, if_neg d0, if_neg d1, if_neg d2, if_neg d3, if_neg d4, if_pos d5, ecl]) (by unfold r_Mod_step; simp only [if_neg c1, if_neg m2, if_neg m3, th0, if_true, if_pos hle, if_neg d2, if_neg d3, if_neg d4, if_pos d5, ecl, u12])
  · have h01 : Q 6 k = 0 ∨ Q 6 k = 1 := by
      rw [p6]
      unfold cChg
      split
      · exact Or.inl rfl
      · split
        · exact Or.inr rfl
        · exact Or.inl rfl
    exact fin (Q 6 k) (by unfold r_Ord_step; simp only [lt, if_neg hy, if_neg c2, if_neg c3, if_neg d0, if_neg d1, if_neg d2, if_neg d3, if_neg d4, if_neg d5, ecl]) (by
      unfold r_Mod_step; simp only [if_neg c1, if_neg m2, if_neg m3, th0, if_true, if_pos hle, if_neg d2, if_neg d3, if_neg d4, if_neg d5, ecl, u13]
      rcases h01 with h | h
      · rw [h]; rfl
      · rw [h]; rfl)
