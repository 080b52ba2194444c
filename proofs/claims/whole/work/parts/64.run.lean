/-! the mathematics: run, on both sides -/
theorem wk8_go : ∀ (f : Nat) (q k j h : Int32) (M : MM), (q_Mod_workOut q f k j h M).2 8 = M 8 := by
  intro f
  induction f with
  | zero => intro q k j h M; rfl
  | succ f ih =>
    intro q k j h M
    by_cases c : q ≤ k
    · rw [q_Mod_workOut, if_pos c]
    · rw [work_form _ _ _ _ _ _ c, ih]
      rfl
theorem wk8 (M : MM) (q : Int32) : (r_Mod_workOut M q).2 8 = M 8 := wk8_go 8 q 0 0 1 (w0 M)
set_option maxHeartbeats 2000000 in
theorem s8 {q v g : Int32} {al : Nat} (hal : al ≤ 6) : ∀ (f : Nat) (k h j : Int32) (M : MM) (r : Int32 × MM), q_Mod_search q v g (nI al) f k h j M = some r → (∀ p, al ≤ p → r.2 8 p = M 8 p) ∧ (r.1 = 0 → h = 0 ∧ r.2 8 = M 8) := by
  intro f
  induction f with
  | zero => intro k h j M r hr; rw [q_Mod_search] at hr; cases hr
  | succ f ih =>
    intro k h j M r hr
    by_cases hk : k < 0
    · rw [q_Mod_search, if_pos hk] at hr
      cases hr
      exact ⟨fun _ _ => rfl, fun a => ⟨a, rfl⟩⟩
    · rw [iter q v g (nI al) f k h j M hk] at hr
      have via : ∀ (k1 h1 j1 : Int32) (M1 : MM), q_Mod_search q v g (nI al) f k1 h1 j1 M1 = some r → (∀ p, al ≤ p → M1 8 p = M 8 p) → (h1 = 0 → h = 0 ∧ M1 8 = M 8) → (∀ p, al ≤ p → r.2 8 p = M 8 p) ∧ (r.1 = 0 → h = 0 ∧ r.2 8 = M 8) := by
        intro k1 h1 j1 M1 e a b
        obtain ⟨i1, i2⟩ := ih k1 h1 j1 M1 r e
        refine ⟨fun p hp => (i1 p hp).trans (a p hp), fun hr0 => ?_⟩
        obtain ⟨i3, i4⟩ := i2 hr0
        obtain ⟨b1, b2⟩ := b i3
        exact ⟨b1, i4.trans b2⟩
      have keep : ∀ (k1 j1 : Int32) (M1 : MM), q_Mod_search q v g (nI al) f k1 h j1 M1 = some r → M1 8 = M 8 → (∀ p, al ≤ p → r.2 8 p = M 8 p) ∧ (r.1 = 0 → h = 0 ∧ r.2 8 = M 8) := fun k1 j1 M1 e a => via k1 h j1 M1 e (fun p _ => by rw [a]) (fun h0 => ⟨h0, a⟩)
      by_cases c1 : M 9 k.toNatClampNeg + 1 = 2 * M 0 1
      · rw [if_pos c1] at hr; exact keep _ _ _ hr (s9_8 _ _ _)
      · rw [if_neg c1] at hr
        by_cases c2 : (q >>> ((M 9 k.toNatClampNeg + 1) / 2 &&& 31)) &&& 1 = 1
        · rw [if_pos c2] at hr
          by_cases c3 : r_Mod_isUsed (s9 M k.toNatClampNeg (M 9 k.toNatClampNeg + 1)) k = 0
          · rw [if_pos c3] at hr
            have hT := (wk8 (s9 M k.toNatClampNeg (M 9 k.toNatClampNeg + 1)) (k + 1)).trans (s9_8 _ _ _)
            by_cases c4 : (r_Mod_workOut (s9 M k.toNatClampNeg (M 9 k.toNatClampNeg + 1)) (k + 1)).1 = 0
            · rw [if_pos c4] at hr; exact keep _ _ _ hr hT
            · rw [if_neg c4] at hr
              generalize (r_Mod_workOut (s9 M k.toNatClampNeg (M 9 k.toNatClampNeg + 1)) (k + 1)).2 = T at hr hT
              have hn1 : nod T 1 8 = M 8 := (nod8 T 1).trans hT
              have hn0 : nod T 0 8 = M 8 := (nod8 T 0).trans hT
              unfold aft at hr
              by_cases c5 : g = 0
              · rw [if_pos c5] at hr
                by_cases c6 : T 0 11 = v
                · rw [if_pos c6] at hr
                  cases hr
                  exact ⟨fun p _ => by show npr T 8 p = _; rw [npr8, hT], fun a => ⟨a, (npr8 T).trans hT⟩⟩
                · rw [if_neg c6] at hr
                  by_cases c7 : ovr h j (nod T 1) = 0
                  · rw [if_pos c7] at hr
                    by_cases c8 : k + 1 = nI al
                    · rw [if_pos c8] at hr
                      refine via _ _ _ _ hr (fun p hp => ?_) (fun a => absurd a e10)
                      rw [(cpy0 hal (nod T 1)).2 p, if_neg (by omega), hn1]
                    · rw [if_neg c8] at hr; exact keep _ _ _ hr ((s9_8 _ _ _).trans hn1)
                  · rw [if_neg c7] at hr; exact keep _ _ _ hr hn1
              · rw [if_neg c5] at hr
                by_cases c7 : ovr h j (nod T 0) = 0
                · rw [if_pos c7] at hr
                  by_cases c8 : k + 1 = nI al
                  · rw [if_pos c8] at hr
                    cases hr
                    exact ⟨fun p _ => by show nod T 0 8 p = _; rw [hn0], fun a => absurd a e10⟩
                  · rw [if_neg c8] at hr; exact keep _ _ _ hr ((s9_8 _ _ _).trans hn0)
                · rw [if_neg c7] at hr; exact keep _ _ _ hr hn0
          · rw [if_neg c3] at hr; exact keep _ _ _ hr (s9_8 _ _ _)
        · rw [if_neg c2] at hr; exact keep _ _ _ hr (s9_8 _ _ _)
/-- the model's table as run hands it to the search; and with 'ordered' set -/
def rM (M : MM) : MM := tb [tv [tM M 0 0 0, tM M 0 0 1, tM M 0 0 2, tM M 0 0 3, tM M 0 0 4, tM M 0 0 5, tM M 0 0 6, tM M 0 0 7, tM M 0 0 8, 1, 1, 0, tM M 0 0 12, tM M 0 0 13, tM M 0 0 14, tM M 0 0 15], tM M 0 1, tM M 0 2, tM M 0 3, tM M 0 4, tM M 0 5, tM M 0 6, tM M 0 7, tM M 0 8, tM M 0 9, tM M 0 10, tM M 0 11, tM M 0 12, tM M 0 13]
def oM (T : MM) (w : Int32) : MM := tb [tv [T 0 0, T 0 1, T 0 2, T 0 3, T 0 4, T 0 5, T 0 6, T 0 7, T 0 8, T 0 9, T 0 10, T 0 11, w, T 0 13, T 0 14, T 0 15], T 1, T 2, T 3, T 4, T 5, T 6, T 7, T 8, T 9, T 10, T 11, T 12, T 13]
theorem run_form (N : Nat) (M : MM) (h : Int32) (c : ¬ r_Mod_in h 0 100000 = 0) : r_Mod_run N M h = if (sr N (rM M) ((1 <<< (M 0 1 &&& 31)) - 1) h 0).1 = 0 then ((-1 : Int32), oM (sr N (rM M) ((1 <<< (M 0 1 &&& 31)) - 1) h 0).2 (sr N (rM M) ((1 <<< (M 0 1 &&& 31)) - 1) h 0).1) else (r_Mod_costNow (r_Mod_takePlan (oM (sr N (rM M) ((1 <<< (M 0 1 &&& 31)) - 1) h 0).2 (sr N (rM M) ((1 <<< (M 0 1 &&& 31)) - 1) h 0).1)), r_Mod_takePlan (oM (sr N (rM M) ((1 <<< (M 0 1 &&& 31)) - 1) h 0).2 (sr N (rM M) ((1 <<< (M 0 1 &&& 31)) - 1) h 0).1)) := by
  unfold r_Mod_run
  simp only [lt, if_neg c, th0, if_true]
  rfl
theorem rM_f (M : MM) : rM M 0 0 = 0 ∧ rM M 0 1 = M 0 1 ∧ rM M 0 9 = 1 ∧ rM M 0 10 = 1 ∧ rM M 0 11 = 0 ∧ rM M 8 = M 8 := ⟨rfl, rfl, rfl, rfl, rfl, rfl⟩
theorem SM_rM {S M : MM} (h : SM S M) : SM S (rM M) := by
  obtain ⟨⟨h0, h1, h2, h3, h4, h5, h6, h7⟩, g1, g2, g3, g4, g5, g6, g7⟩ := h
  exact ⟨⟨h0, h1, h2, h3, h4, h5, h6, h7⟩, g1, g2, g3, g4, g5, g6, g7⟩
theorem oM_f (T : MM) (w : Int32) : oM T w 0 0 = T 0 0 ∧ oM T w 0 9 = T 0 9 ∧ oM T w 0 10 = T 0 10 ∧ oM T w 0 11 = T 0 11 ∧ oM T w 0 12 = w ∧ oM T w 8 = T 8 := ⟨rfl, rfl, rfl, rfl, rfl, rfl⟩
theorem SM_oM {S T : MM} (w : Int32) (h : SM S T) : SM S (oM T w) := by
  obtain ⟨⟨h0, h1, h2, h3, h4, h5, h6, h7⟩, g1, g2, g3, g4, g5, g6, g7⟩ := h
  exact ⟨⟨h0, h1, h2, h3, h4, h5, h6, h7⟩, g1, g2, g3, g4, g5, g6, g7⟩
theorem CV_d {n : Nat} (hn : n ≤ 6) {cs : Nat → Int32} (h : CV n cs n) {S : MM} (hN : S 0 0 = nI n) : (∀ p, p < n → r_Ord_heatOf (nI (enc cs n)) (nI p) = cs p / 2 ∧ r_Ord_casterOf (nI (enc cs n)) (nI p) = cs p - cs p / 2 * 2) ∧ (∀ p, p < n → ¬ r_Ord_within (cs p / 2) 0 (S 0 0 - 1) = 0) := by
  refine ⟨fun p hp => ?_, fun p hp => ?_⟩
  · obtain ⟨h1, h2⟩ := hd_enc hn (h.lt hn) hp
    obtain ⟨c, c1, c2⟩ := h p hp
    obtain ⟨t1, t2⟩ := t_half (t := c) (by omega)
    rw [h1, h2, c2, t2, t1, nI_clamp (by omega)]
    exact ⟨rfl, rfl⟩
  · obtain ⟨c, c1, c2⟩ := h p hp
    obtain ⟨t1, t2⟩ := t_half (t := c) (by omega)
    rw [c2, t1, hN]
    exact wi_h (by omega) hn
theorem fb_hp {S P : MM} {x : Nat → Int32} {v : Int32} (hN : ∃ n : Nat, n ≤ 6 ∧ S 0 0 = nI n) (hp : ∀ j, vp_in (P 0 j) 6) : ∀ j, vp_in ((r_Srch_findBest S P x v).2 0 j) 6 := by
  unfold r_Srch_findBest
  exact branch_hp hN _ _ _ _ _ _ hp
set_option maxHeartbeats 2000000 in
theorem mt_run (C : TC) (M : MM) (z : Nat → Int64) (v0 : Int32) (hR : Rel C M) : Rel (r_Law_run C.1 C.2.1 C.2.2.1 C.2.2.2.1 C.2.2.2.2 z v0).2.1 (r_Mod_run sN M v0).2 ∧ r_Mod_thrown (r_Mod_run sN M v0).2 = (r_Law_run C.1 C.2.1 C.2.2.1 C.2.2.2.1 C.2.2.2.2 z v0).1 ∧ ((r_Law_run C.1 C.2.1 C.2.2.1 C.2.2.2.1 C.2.2.2.2 z v0).1 = 0 → (r_Law_run C.1 C.2.1 C.2.2.1 C.2.2.2.1 C.2.2.2.2 z v0).2.2 0 = (r_Mod_run sN M v0).1.toInt64) := by
  obtain ⟨y, x, P, Q, S⟩ := C
  show Rel (r_Law_run y x P Q S z v0).2.1 _ ∧ _ = (r_Law_run y x P Q S z v0).1 ∧ ((r_Law_run y x P Q S z v0).1 = 0 → (r_Law_run y x P Q S z v0).2.2 0 = _)
  by_cases c0 : r_Ord_within v0 0 100000 = 0
  · have g : r_Law_run y x P Q S z v0 = (1, (y, x, P, Q, S), z) := by unfold r_Law_run r_Ord_run; simp only [lt, if_pos c0]; rfl
    have f : r_Mod_run sN M v0 = (0, tM M 1) := by unfold r_Mod_run; simp only [lt, if_pos (show r_Mod_in v0 0 100000 = 0 from c0), th1, if_neg e10]
    rw [g, f]
    exact ⟨hR.mv (KR_tM M 1), rfl, fun h => absurd h e10⟩
  obtain ⟨n, hn, hN⟩ : ∃ n : Nat, n ≤ 6 ∧ S 0 0 = nI n := hR.2.1.1
  have hB : SB S := hR.2.1
  have hS : SM S (rM M) := SM_rM hR.1
  obtain ⟨f0, f1, f9, f10, f11, f8⟩ := rM_f M
  have hv := wi_r c0
  have e0 : (0 : Int32).toInt = 0 := by decide
  have e1 : (100000 : Int32).toInt = 100000 := by decide
  rw [e0, e1] at hv
  obtain ⟨res, j', hms, hK, hX, hZ', hfl⟩ := run_search (P := P) (x := x) hn hN hB hS hR.2.2.1.1 f11 f10 hv
  rw [f1] at hms
  have hsr : sr sN (rM M) ((1 <<< (M 0 1 &&& 31)) - 1) v0 0 = res := by unfold sr; rw [hms]; rfl
  have hrun := run_form sN M v0 c0
  rw [hsr] at hrun
  have hp' := fb_hp (S := S) (P := P) (x := x) (v := v0) ⟨n, hn, hN⟩ hR.2.2.2.1.1
  obtain ⟨x0, x1, x3, xh, xb, xbest⟩ := id hX
  obtain ⟨o0, o9, o10, o11, o12, o8⟩ := oM_f res.2 res.1
  have hS2 : SM S (oM res.2 res.1) := SM_oM _ (hS.of_KB hK)
  have k0 : res.2 0 0 = 0 := hK.1.1.trans f0
  have k9 : res.2 0 9 = 1 := hK.1.2.2.2.2.2.2.2.2.2.1.trans f9
  have hfl' : res.2 0 10 = if (r_Srch_findBest S P x v0).1 2 = 0 then 1 else 0 := by
    rcases hfl with ⟨a, b⟩ | ⟨a, b⟩
    · rw [if_pos a]; exact b
    · rw [if_neg a]; exact b
  -- row 8
  have h8 : ∀ j, j < 6 → vp_in (res.2 8 j) 12 := by
    have hNM : rM M 0 1 = nI n := hS.1.1.symm.trans hN
    have r7 := hR.2.2.2.2.2.2.1
    have hq : (1 <<< (M 0 1 &&& 31)) - 1 = nI (2 ^ n - 1) := by rw [← f1, hNM]; exact full_Q hn
    intro j hj
    by_cases hn0 : c6 (2 ^ n - 1) = 0
    · have := ms_0 (v := v0) (g := 0) hn hNM hq (full_lt n) hn0
      rw [this] at hms
      cases hms
      rw [show (1, s9 (rM M) 0 (-1)).2 8 j = M 8 j from rfl]
      exact r7 j hj
    · rw [ms_ne hn hNM hq (full_lt n) hn0, full_c hn] at hms
      obtain ⟨a1, a2⟩ := s8 hn _ _ _ _ _ _ hms
      by_cases hr0 : res.1 = 0
      · rw [(a2 hr0).2, s9_8, f8]; exact r7 j hj
      · by_cases hjn : j < n
        · obtain ⟨cc, c1, c2⟩ := (xbest hr0).2.2.1 j hjn
          rw [c2]; exact vp_in_nI (by omega) (by omega)
        · rw [a1 j (by omega), s9_8, f8]; exact r7 j hj
  by_cases cr : res.1 = 0
  · rw [if_pos cr] at hrun
    have hx3 : (r_Srch_findBest S P x v0).1 3 = 0 := x3.trans cr
    have g : r_Law_run y x P Q S z v0 = (0, (tv [0, 1], (r_Srch_findBest S P x v0).1, (r_Srch_findBest S P x v0).2, Q, S), vp_updL z (0 : Int32).toNatClampNeg (-1 : Int32).toInt64) := by unfold r_Law_run r_Ord_run; simp only [lt, if_neg c0, if_pos hx3]; rfl
    rw [g, hrun]
    refine ⟨⟨hS2, hB, ⟨hZ', hR.2.2.1.2⟩, ⟨hp', hR.2.2.2.1.2⟩, ⟨?_, ?_⟩, fun _ => ⟨?_, ?_⟩, ?_, fun a => absurd (o12.trans cr) a⟩, ?_, fun _ => rfl⟩
    · show (0 : Int32) = oM res.2 res.1 0 12
      rw [o12, cr]
    · show (1 : Int32) = oM res.2 res.1 0 9
      rw [o9, k9]
    · show oM res.2 res.1 0 11 = _
      rw [o11]; exact x1.symm
    · show oM res.2 res.1 0 10 = _
      rw [o10]; exact hfl'
    · show ∀ j, j < 6 → vp_in (oM res.2 res.1 8 j) 12
      rw [o8]; exact h8
    · show oM res.2 res.1 0 0 = 0
      rw [o0, k0]
  · rw [if_neg cr] at hrun
    have hx3 : ¬ (r_Srch_findBest S P x v0).1 3 = 0 := by rw [x3]; exact cr
    have hr1 : res.1 = 1 := by rcases xh with h | h; exact absurd h cr; exact h
    obtain ⟨b5, b4, bC, P0, bV, bZ⟩ := xbest cr
    obtain ⟨hd, hw⟩ := CV_d hn bC hN
    have hNo : oM res.2 res.1 0 1 = nI n := hS2.1.1.symm.trans hN
    obtain ⟨M2, m1, m2, m3, m4⟩ := tp_go hn n 0 8 (oM res.2 res.1) (by omega) (by omega) hNo
    have m9 : ∀ p, p < n → M2 9 p = res.2 8 p := fun p hp => by rw [m2 p (by omega) hp, o8]
    have hSM2 : SM S M2 := hS2.of_KB m1.KB
    have hgood : (wsT M2 n).2.1 = 1 := (WR_all hSM2 hB bZ n hn (bV.keep hn m9)).2.1
    obtain ⟨l1, l2, l3⟩ := lay_all (Q := Q) (v := nI (enc (res.2 8) n)) hn hN hSM2 hB (fun p hp => by unfold cas; rw [m9 p hp]; exact hd p hp) (fun p hp => by rw [m9 p hp]; exact hw p hp) hR.2.2.1.2 hR.2.2.2.1.2
    rw [← b4, ← hN] at l1 l2 l3
    have hl : (r_Plan_lay S Q ((r_Srch_findBest S P x v0).1 4) (S 0 0)).1 = 1 ∧ PV S (r_Plan_lay S Q ((r_Srch_findBest S P x v0).1 4) (S 0 0)).2 (res.2 8) n := by
      rcases l3 with ⟨a, b, c⟩ | ⟨a, b⟩
      · exact ⟨a, c.keep hn (fun p hp => (m9 p hp).symm)⟩
      · rw [hgood] at b; exact absurd b e10
    have hl0 : ¬ (r_Plan_lay S Q ((r_Srch_findBest S P x v0).1 4) (S 0 0)).1 = 0 := by rw [hl.1]; decide
    obtain ⟨hl1, hlV⟩ := hl
    have g : r_Law_run y x P Q S z v0 = (0, (tv [1, 1], (r_Srch_findBest S P x v0).1, (r_Srch_findBest S P x v0).2, (r_Plan_lay S Q ((r_Srch_findBest S P x v0).1 4) (S 0 0)).2, S), vp_updL z (0 : Int32).toNatClampNeg (r_Plan_costOf S (r_Plan_lay S Q ((r_Srch_findBest S P x v0).1 4) (S 0 0)).2 (S 0 0)).toInt64) := by unfold r_Law_run r_Ord_run; simp only [lt, if_neg c0, if_neg hx3, if_neg hl0]; rfl
    rw [g, hrun]
    generalize (r_Plan_lay S Q ((r_Srch_findBest S P x v0).1 4) (S 0 0)).2 = Q' at l1 l2 hlV ⊢
    obtain ⟨t1, t2, t3, t4, t5, t6⟩ := tp_all (Q := Q') hn hN hS2 hB l1 (by rw [o8]; exact hlV)
    have hRo : Rel (tv [1, 1], (r_Srch_findBest S P x v0).1, (r_Srch_findBest S P x v0).2, Q', S) (oM res.2 res.1) := by
      refine ⟨hS2, hB, ⟨hZ', l1⟩, ⟨hp', l2⟩, ⟨?_, ?_⟩, fun _ => ⟨?_, ?_⟩, ?_, fun _ n' hn' hN' => ?_⟩
      · show (1 : Int32) = oM res.2 res.1 0 12
        rw [o12, hr1]
      · show (1 : Int32) = oM res.2 res.1 0 9
        rw [o9, k9]
      · show oM res.2 res.1 0 11 = _
        rw [o11]; exact x1.symm
      · show oM res.2 res.1 0 10 = _
        rw [o10]; exact hfl'
      · show ∀ j, j < 6 → vp_in (oM res.2 res.1 8 j) 12
        rw [o8]; exact h8
      · have en : n' = n := (nI_eq (by omega) (by omega)).mp (hN'.symm.trans hN)
        subst en
        rw [o8]
        exact ⟨bC, hlV⟩
    refine ⟨hRo.mv t1.KR, ?_, fun _ => ?_⟩
    · show r_Mod_takePlan (oM res.2 res.1) 0 0 = 0
      rw [t1.1.1, o0, k0]
    · show (r_Plan_costOf S Q' (S 0 0)).toInt64 = (r_Mod_costNow (r_Mod_takePlan (oM res.2 res.1))).toInt64
      rw [t6, hN]
