/-! the mathematics: takePlan and lay, on both sides -/
theorem tp_go {n : Nat} (hn : n ≤ 6) : ∀ (r i f : Nat) (M : MM), i + r = n → r < f → M 0 1 = nI n → ∃ M2 : MM, KC M2 M ∧ (∀ p, i ≤ p → p < n → M2 9 p = M 8 p) ∧ (∀ p, p < i → M2 9 p = M 9 p) ∧ q_Mod_takePlan f (nI i) M = (wsT M2 n).2.2 := by
  intro r
  induction r with
  | zero =>
    intro i f M h1 h2 hN
    match f, h2 with
    | f + 1, _ =>
      have e : i = n := by omega
      subst e
      refine ⟨M, KC.rf M, fun p a b => absurd b (by omega), fun p _ => rfl, ?_⟩
      rw [q_Mod_takePlan, hN, if_pos (nI_le (Nat.le_refl _) (by omega))]
      show (r_Mod_workOut M (nI i)).2 = _
      rw [work_iter M hn]
  | succ r ih =>
    intro i f M h1 h2 hN
    match f, h2 with
    | f + 1, h2 =>
      rw [q_Mod_takePlan, hN, if_neg (nI_ge (by omega) (by omega))]
      try dsimp only
      rw [nI_1, nI_clamp (by omega : i < 2 ^ 31)]
      obtain ⟨M2, a1, a2, a3, a4⟩ := ih (i + 1) f (s9 M i (M 8 i)) (by omega) (by omega) hN
      refine ⟨M2, a1.tr (KC_s9 _ _ _), fun p hp hpn => ?_, fun p hp => ?_, a4⟩
      · by_cases e : p = i
        · subst e
          rw [a3 p (by omega), s9_9]; exact pk_us
        · rw [a2 p (by omega) hpn, s9_8]
      · rw [a3 p (by omega), s9_9, upd_ne (by omega)]
theorem tp_all {S Q M : MM} {n : Nat} (hn : n ≤ 6) (hN : S 0 0 = nI n) (hS : SM S M) (hB : SB S) (hZ : PZ Q) (hV : PV S Q (M 8) n) : KC (r_Mod_takePlan M) M ∧ (∀ j, j < n → r_Mod_takePlan M 9 j = M 8 j ∧ r_Mod_takePlan M 10 j = Q 3 j ∧ r_Mod_takePlan M 11 j = Q 4 j ∧ r_Mod_takePlan M 12 j = Q 5 j ∧ r_Mod_takePlan M 13 j = Q 6 j) ∧ r_Mod_takePlan M 0 13 = Q 10 n ∧ r_Mod_takePlan M 0 14 = Q 8 n ∧ r_Mod_takePlan M 0 15 = Q 9 n ∧ r_Mod_costNow (r_Mod_takePlan M) = r_Plan_costOf S Q (nI n) := by
  have hNM : M 0 1 = nI n := hS.1.1.symm.trans hN
  obtain ⟨M2, a1, a2, a3, a4⟩ := tp_go hn n 0 8 M (by omega) (by omega) hNM
  have a4' : r_Mod_takePlan M = (wsT M2 n).2.2 := a4
  have hS2 : SM S M2 := hS.of_KB a1.KB
  have hV2 : PV S Q (M2 9) n := hV.keep hn (fun p hp => a2 p (by omega) hp)
  have hW := WR_all hS2 hB hZ n hn hV2
  have hc := cost_eq hn hS2 hW
  have hK := ws_keep M2 n
  rw [a4']
  obtain ⟨w1, w2, w3, w4, w5, w6⟩ := hW
  refine ⟨hK.KC.tr a1, fun j hj => ⟨?_, w3 j hj⟩, w4, w5, w6, hc⟩
  rw [hK.2.2.2.2.2.2.2.2.2]; exact a2 j (by omega) hj
theorem bad_st (M : MM) {i : Nat} (h : (wsT M i).2.1 = 0) : ∀ d, (wsT M (i + d)).2.1 = 0 := by
  intro d
  induction d with
  | zero => exact h
  | succ d ih =>
    show wGood _ _ _ (wsT M (i + d)).2.1 = 0
    rw [ih]
    exact if_pos rfl
theorem ws_01 (M : MM) : ∀ i, (wsT M i).2.1 = 0 ∨ (wsT M i).2.1 = 1 := by
  intro i
  induction i with
  | zero => exact Or.inr rfl
  | succ i ih =>
    show wGood _ _ _ _ = 0 ∨ wGood _ _ _ _ = 1
    unfold wGood
    split
    · exact Or.inl rfl
    · split
      · exact Or.inl rfl
      · split
        · exact Or.inr rfl
        · exact Or.inl rfl
theorem lay_go {S M : MM} {n : Nat} {v : Int32} (hn : n ≤ 6) (hN : S 0 0 = nI n) (hS : SM S M) (hB : SB S) (hd : ∀ p, p < n → r_Ord_heatOf v (nI p) = M 9 p / 2 ∧ r_Ord_casterOf v (nI p) = cas M p) (hw : ∀ p, p < n → ¬ r_Ord_within (M 9 p / 2) 0 (S 0 0 - 1) = 0) : ∀ (r i f : Nat) (Q : MM), i + r = n → r < f → PV S Q (M 9) i → PZ Q → (∀ j, vp_in (Q 0 j) 6) → (wsT M i).2.1 = 1 →
    PZ (q_Plan_lay S v (nI n) f (nI i) Q).2 ∧ (∀ j, vp_in ((q_Plan_lay S v (nI n) f (nI i) Q).2 0 j) 6) ∧ (((q_Plan_lay S v (nI n) f (nI i) Q).1 = 1 ∧ (wsT M n).2.1 = 1 ∧ PV S (q_Plan_lay S v (nI n) f (nI i) Q).2 (M 9) n) ∨ ((q_Plan_lay S v (nI n) f (nI i) Q).1 = 0 ∧ (wsT M n).2.1 = 0)) := by
  intro r
  induction r with
  | zero =>
    intro i f Q h1 h2 hV hZ hp hg
    match f, h2 with
    | f + 1, _ =>
      have e : i = n := by omega
      subst e
      rw [q_Plan_lay, if_pos (nI_le (Nat.le_refl _) (by omega))]
      exact ⟨hZ, hp, Or.inl ⟨rfl, hg, hV⟩⟩
  | succ r ih =>
    intro i f Q h1 h2 hV hZ hp hg
    match f, h2 with
    | f + 1, h2 =>
      rw [q_Plan_lay, if_neg (nI_ge (by omega) (by omega))]
      try dsimp only
      rw [(hd i (by omega)).1, (hd i (by omega)).2]
      have hge := good_eq hS hB hZ (by omega : i < 6) hV (hw i (by omega))
      have hZ' := put_PZ (S := S) (P := Q) (by omega : i < 6) (M 9 i / 2) (cas M i) hZ
      have hp' := put_hp (S := S) (k := nI i) (h := M 9 i / 2) (q := cas M i) hp ⟨n, hn, hN⟩
      by_cases c : (r_Plan_put S Q (nI i) (M 9 i / 2) (cas M i)).1 = 0
      · rw [if_pos c]
        refine ⟨hZ', hp', Or.inr ⟨rfl, ?_⟩⟩
        have := bad_st M (hge.trans c) (n - (i + 1))
        rw [show i + 1 + (n - (i + 1)) = n from by omega] at this
        exact this
      · rw [if_neg c, nI_1]
        have hV' := put_step (cs' := M 9) (by omega : i < 6) (hw i (by omega)) hV (fun _ _ => rfl) rfl rfl c
        have hg' : (wsT M (i + 1)).2.1 = 1 := by
          rcases ws_01 M (i + 1) with h | h
          · exact absurd (hge.symm.trans h) c
          · exact h
        exact ih (i + 1) f _ (by omega) (by omega) hV' hZ' hp' hg'
theorem lay_all {S M Q : MM} {n : Nat} {v : Int32} (hn : n ≤ 6) (hN : S 0 0 = nI n) (hS : SM S M) (hB : SB S) (hd : ∀ p, p < n → r_Ord_heatOf v (nI p) = M 9 p / 2 ∧ r_Ord_casterOf v (nI p) = cas M p) (hw : ∀ p, p < n → ¬ r_Ord_within (M 9 p / 2) 0 (S 0 0 - 1) = 0) (hZ : PZ Q) (hp : ∀ j, vp_in (Q 0 j) 6) :
    PZ (r_Plan_lay S Q v (nI n)).2 ∧ (∀ j, vp_in ((r_Plan_lay S Q v (nI n)).2 0 j) 6) ∧ (((r_Plan_lay S Q v (nI n)).1 = 1 ∧ (wsT M n).2.1 = 1 ∧ PV S (r_Plan_lay S Q v (nI n)).2 (M 9) n) ∨ ((r_Plan_lay S Q v (nI n)).1 = 0 ∧ (wsT M n).2.1 = 0)) :=
  lay_go hn hN hS hB hd hw n 0 8 Q (by omega) (by omega) (fun j hj => absurd hj (by omega)) hZ hp rfl
