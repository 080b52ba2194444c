theorem tell_0 {M : MM} {v q : Int32} (h : ¬ q = M 0 1) : r_Mod_tell M v q = (0, tM M 1) := by
  unfold r_Mod_tell
  simp only [if_neg h]
  exact tell_bad v q 7 0 0 M
set_option maxHeartbeats 2000000 in
theorem mt_tell (C : TC) (M : MM) (z : Nat → Int64) (v0 v1 : Int32) (hR : Rel C M) : Rel (r_Law_tell C.1 C.2.1 C.2.2.1 C.2.2.2.1 C.2.2.2.2 z v0 v1).2.1 (r_Mod_tell M v0 v1).2 ∧ r_Mod_thrown (r_Mod_tell M v0 v1).2 = (r_Law_tell C.1 C.2.1 C.2.2.1 C.2.2.2.1 C.2.2.2.2 z v0 v1).1 ∧ ((r_Law_tell C.1 C.2.1 C.2.2.1 C.2.2.2.1 C.2.2.2.2 z v0 v1).1 = 0 → (r_Law_tell C.1 C.2.1 C.2.2.1 C.2.2.2.1 C.2.2.2.2 z v0 v1).2.2 0 = (r_Mod_tell M v0 v1).1.toInt64) := by
  obtain ⟨y, x, P, Q, S⟩ := C
  show Rel (r_Law_tell y x P Q S z v0 v1).2.1 _ ∧ _ = (r_Law_tell y x P Q S z v0 v1).1 ∧ ((r_Law_tell y x P Q S z v0 v1).1 = 0 → (r_Law_tell y x P Q S z v0 v1).2.2 0 = _)
  have eN0 : M 0 1 = S 0 0 := hR.1.1.1.symm
  by_cases c0 : ¬ v1 = S 0 0
  · have g : r_Law_tell y x P Q S z v0 v1 = (1, (y, x, P, Q, S), z) := by unfold r_Law_tell r_Ord_tell; simp only [lt, if_neg c0]; rfl
    have f : r_Mod_tell M v0 v1 = (0, tM M 1) := tell_0 (by rw [eN0]; exact c0)
    rw [g, f]
    exact ⟨hR.mv (KR_tM M 1), rfl, fun h => absurd h e10⟩
  have c0 : v1 = S 0 0 := Classical.not_not.mp c0
  obtain ⟨n, hn, hN⟩ : ∃ n : Nat, n ≤ 6 ∧ S 0 0 = nI n := hR.2.1.1
  have hB : SB S := hR.2.1
  have hNM : M 0 1 = nI n := eN0.trans hN
  have hq : v1 = nI n := c0.trans hN
  have hmt : r_Mod_tell M v0 v1 = q_Mod_tell v0 v1 8 (nI 0) 0 (nI (2 ^ n - 1 - (2 ^ n - 1))) M := by
    unfold r_Mod_tell
    have hc : v1 = M 0 1 := by rw [hNM]; exact hq
    simp only [if_pos hc]
    rw [Nat.sub_self]
    rfl
  have hna : r_Ord_namesEachHeat S v0 v1 = q_Ord_namesEachHeat S v0 (nI n) 8 (nI 0) (nI (2 ^ n - 1)) := by
    have hall : r_Shop_allHeats S = nI (2 ^ n - 1) := by
      show (1 <<< (S 0 0 &&& 31)) - 1 = _
      rw [hN]; exact full_Q hn
    unfold r_Ord_namesEachHeat
    rw [hall, hq]
    rfl
  rcases tl_go (S := S) (v := v0) (q := v1) hn n 0 7 8 M (2 ^ n - 1) (by omega) (by omega) (by omega) (full_lt n) hNM with ⟨a1, M', a2, a3⟩ | ⟨a1, M', a2, -, a4, a5⟩
  · rw [← hna] at a1
    rw [← hmt] at a3
    have g : r_Law_tell y x P Q S z v0 v1 = (1, (y, x, P, Q, S), z) := by unfold r_Law_tell r_Ord_tell; simp only [lt, if_pos c0, if_pos a1]; rfl
    rw [g, a3]
    exact ⟨hR.mv ((KR_tM M' 1).tr a2.KR), rfl, fun h => absurd h e10⟩
  · rw [← hna] at a1
    rw [← hmt] at a5
    have a1' : ¬ r_Ord_namesEachHeat S v0 v1 = 0 := by rw [a1]; decide
    have hS' : SM S M' := hR.1.of_KR a2.KR
    have hNM' : M' 0 1 = nI n := hS'.1.1.symm.trans hN
    have hcv : CV n (M' 9) n := fun p hp => by
      obtain ⟨h, c, h1, h2, h3, h4, h5⟩ := a4 p (by omega) hp
      exact ⟨2 * h + c, by omega, h5⟩
    have hd : ∀ p, p < n → r_Ord_heatOf v0 (nI p) = M' 9 p / 2 ∧ r_Ord_casterOf v0 (nI p) = cas M' p := fun p hp => by
      obtain ⟨h, c, h1, h2, h3, h4, h5⟩ := a4 p (by omega) hp
      obtain ⟨t1, t2⟩ := t_half (t := 2 * h + c) (by omega)
      unfold cas
      rw [h5, h3, h4, t2, t1, show (2 * h + c) / 2 = h from by omega, show (2 * h + c) % 2 = c from by omega]
      exact ⟨rfl, rfl⟩
    have hw : ∀ p, p < n → ¬ r_Ord_within (M' 9 p / 2) 0 (S 0 0 - 1) = 0 := fun p hp => by
      obtain ⟨h, c, h1, h2, h3, h4, h5⟩ := a4 p (by omega) hp
      obtain ⟨t1, t2⟩ := t_half (t := 2 * h + c) (by omega)
      rw [h5, t1, show (2 * h + c) / 2 = h from by omega, hN]
      exact wi_h h1 hn
    obtain ⟨l1, l2, l3⟩ := lay_all (Q := P) (v := v0) hn hN hS' hB hd hw hR.2.2.1.1 hR.2.2.2.1.1
    obtain ⟨q1, q2, q3⟩ := lay_all (Q := Q) (v := v0) hn hN hS' hB hd hw hR.2.2.1.2 hR.2.2.2.1.2
    rw [← hq] at l1 l2 l3 q1 q2 q3
    have hwo := work_iter M' hn
    have hK := ws_keep M' n
    unfold tE at a5
    rw [hNM', hwo] at a5
    rcases l3 with ⟨b1, b2, b3⟩ | ⟨b1, b2⟩
    · have b1' : ¬ (r_Plan_lay S P v0 v1).1 = 0 := by rw [b1]; decide
      have hg1 : ¬ ((wsT M' n).2.1, (wsT M' n).2.2).1 = 0 := by rw [b2]; decide
      rw [if_neg hg1] at a5
      have hq1 : (r_Plan_lay S Q v0 v1).1 = 1 ∧ PV S (r_Plan_lay S Q v0 v1).2 (M' 9) n := by
        rcases q3 with ⟨d1, d2, d3⟩ | ⟨d1, d2⟩
        · exact ⟨d1, d3⟩
        · rw [b2] at d2; exact absurd d2 e10
      obtain ⟨hq1, hqV⟩ := hq1
      have g : r_Law_tell y x P Q S z v0 v1 = (0, (tv [1, y 1], x, (r_Plan_lay S P v0 v1).2, (r_Plan_lay S Q v0 v1).2, S), vp_updL z (0 : Int32).toNatClampNeg (r_Plan_costOf S (r_Plan_lay S Q v0 v1).2 v1).toInt64) := by
        unfold r_Law_tell r_Ord_tell
        simp only [lt, if_pos c0, if_neg a1', if_neg b1', hq1]
        rfl
      rw [g, a5]
      have hW := WR_all hS' hB q1 n hn hqV
      have hco := cost_eq hn hS' hW
      generalize (r_Plan_lay S Q v0 v1).2 = Q' at q1 q2 hqV hco ⊢
      generalize (r_Plan_lay S P v0 v1).2 = P' at l1 l2 ⊢
      show Rel (tv [1, y 1], x, P', Q', S) (oM (b_Mod_tell_141 8 0 (tM (wsT M' n).2.2 0)) 1) ∧ r_Mod_thrown (oM (b_Mod_tell_141 8 0 (tM (wsT M' n).2.2 0)) 1) = 0 ∧ ((0 : Int32) = 0 → (r_Plan_costOf S Q' v1).toInt64 = (r_Mod_costNow (oM (b_Mod_tell_141 8 0 (tM (wsT M' n).2.2 0)) 1)).toInt64)
      generalize hT : (wsT M' n).2.2 = T at hK hco ⊢
      obtain ⟨u0, u1, u9, u10, u11, u8, u9r⟩ := tMf T 0
      have hKC : KC T M := hK.KC.tr a2
      have hSt : SM S (tM T 0) := (hR.1.of_KR hKC.KR).of_KR (KR_tM T 0)
      have hNt : tM T 0 0 1 = nI n := hSt.1.1.symm.trans hN
      obtain ⟨⟨g0, g1, g2, g3, g4, g5, g6, g7⟩, g8⟩ := cpt hn n 0 8 (tM T 0) (by omega) (by omega) hNt
      rw [nI_0] at g0 g1 g2 g3 g4 g5 g6 g7 g8
      generalize b_Mod_tell_141 8 0 (tM T 0) = U at g0 g1 g2 g3 g4 g5 g6 g7 g8 ⊢
      have hSU : SM S U := SM_cp hSt g0 g1 g2 g3 g4 g5 g6 g7
      obtain ⟨o0, o9, o10, o11, o12, o8⟩ := oM_f U 1
      have e8 : ∀ p, p < n → U 8 p = M' 9 p := fun p hp => by
        rw [g8 p, if_pos (by omega), u9r, hK.2.2.2.2.2.2.2.2.2]
      have e8' : ∀ p, ¬ p < n → U 8 p = M 8 p := fun p hp => by
        rw [g8 p, if_neg (by omega), u8, hKC.2.2.2.2.2.2.2.2]
      refine ⟨⟨SM_oM 1 hSU, hB, ⟨l1, q1⟩, ⟨l2, q2⟩, ⟨?_, ?_⟩, ?_, ?_, fun _ n' hn' hN' => ?_⟩, ?_, fun _ => ?_⟩
      · show (1 : Int32) = oM U 1 0 12
        rw [o12]
      · show y 1 = oM U 1 0 9
        rw [o9, g0, u9, hKC.1.2.2.2.2.2.2.2.2.2.1]; exact hR.2.2.2.2.1.2
      · show ¬ oM U 1 0 9 = 0 → oM U 1 0 11 = x 1 ∧ oM U 1 0 10 = if x 2 = 0 then 1 else 0
        rw [o9, o10, o11, g0, u9, u10, u11, hKC.1.2.2.2.2.2.2.2.2.2.1, hKC.1.2.2.2.2.2.2.2.2.2.2.1, hKC.1.2.2.2.2.2.2.2.2.2.2.2.1]
        exact hR.2.2.2.2.2.1
      · show ∀ j, j < 6 → vp_in (oM U 1 8 j) 12
        rw [o8]
        intro j hj
        by_cases hjn : j < n
        · obtain ⟨cc, c1, c2⟩ := hcv j hjn
          rw [e8 j hjn, c2]; exact vp_in_nI (by omega) (by omega)
        · rw [e8' j hjn]; exact hR.2.2.2.2.2.2.1 j hj
      · have en : n' = n := (nI_eq (by omega) (by omega)).mp (hN'.symm.trans hN)
        subst en
        rw [o8]
        exact ⟨fun p hp => by rw [e8 p hp]; exact hcv p hp, hqV.keep hn e8⟩
      · show oM U 1 0 0 = 0
        rw [o0, g0, u0]
      · rw [costM (oMc U 1), costM (T := tM T 0) (by rw [g0]; exact ⟨rfl, rfl, rfl, rfl, rfl⟩), costM (tMc T 0), hco, hq]
    · have hg0 : ((wsT M' n).2.1, (wsT M' n).2.2).1 = 0 := b2
      rw [if_pos hg0] at a5
      have g : r_Law_tell y x P Q S z v0 v1 = (2, (y, x, (r_Plan_lay S P v0 v1).2, Q, S), z) := by
        unfold r_Law_tell r_Ord_tell
        simp only [lt, if_pos c0, if_neg a1', if_pos b1]
        rfl
      rw [g, a5]
      have hR' : Rel (y, x, (r_Plan_lay S P v0 v1).2, Q, S) M := ⟨hR.1, hR.2.1, ⟨l1, hR.2.2.1.2⟩, ⟨l2, hR.2.2.2.1.2⟩, hR.2.2.2.2⟩
      exact ⟨hR'.mv ((KR_tM _ 2).tr (hK.KC.tr a2).KR), rfl, fun h => absurd h (by decide : ¬ (2 : Int32) = 0)⟩
