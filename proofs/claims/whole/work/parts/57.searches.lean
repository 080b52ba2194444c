/-! the mathematics: whole searches, on both sides -/
set_option maxHeartbeats 2000000 in
theorem fuel1 {q v g i : Int32} : ∀ (f : Nat) (k h j : Int32) (M : MM) (r : Int32 × MM), q_Mod_search q v g i f k h j M = some r → q_Mod_search q v g i (f + 1) k h j M = some r := by
  intro f
  induction f with
  | zero => intro k h j M r hr; rw [q_Mod_search] at hr; cases hr
  | succ f ih =>
    intro k h j M r hr
    by_cases hk : k < 0
    · rw [q_Mod_search, if_pos hk] at hr ⊢
      exact hr
    · rw [iter q v g i f k h j M hk] at hr
      rw [iter q v g i (f + 1) k h j M hk]
      by_cases c1 : M 9 k.toNatClampNeg + 1 = 2 * M 0 1
      · rw [if_pos c1] at hr ⊢; exact ih _ _ _ _ _ hr
      · rw [if_neg c1] at hr ⊢
        by_cases c2 : (q >>> ((M 9 k.toNatClampNeg + 1) / 2 &&& 31)) &&& 1 = 1
        · rw [if_pos c2] at hr ⊢
          by_cases c3 : r_Mod_isUsed (s9 M k.toNatClampNeg (M 9 k.toNatClampNeg + 1)) k = 0
          · rw [if_pos c3] at hr ⊢
            by_cases c4 : (r_Mod_workOut (s9 M k.toNatClampNeg (M 9 k.toNatClampNeg + 1)) (k + 1)).1 = 0
            · rw [if_pos c4] at hr ⊢; exact ih _ _ _ _ _ hr
            · rw [if_neg c4] at hr ⊢
              generalize (r_Mod_workOut (s9 M k.toNatClampNeg (M 9 k.toNatClampNeg + 1)) (k + 1)).2 = T at hr ⊢
              unfold aft at hr ⊢
              by_cases c5 : g = 0
              · rw [if_pos c5] at hr ⊢
                by_cases c6 : T 0 11 = v
                · rw [if_pos c6] at hr ⊢; exact hr
                · rw [if_neg c6] at hr ⊢
                  by_cases c7 : ovr h j (nod T 1) = 0
                  · rw [if_pos c7] at hr ⊢
                    by_cases c8 : k + 1 = i
                    · rw [if_pos c8] at hr ⊢; exact ih _ _ _ _ _ hr
                    · rw [if_neg c8] at hr ⊢; exact ih _ _ _ _ _ hr
                  · rw [if_neg c7] at hr ⊢; exact ih _ _ _ _ _ hr
              · rw [if_neg c5] at hr ⊢
                by_cases c7 : ovr h j (nod T 0) = 0
                · rw [if_pos c7] at hr ⊢
                  by_cases c8 : k + 1 = i
                  · rw [if_pos c8] at hr ⊢; exact hr
                  · rw [if_neg c8] at hr ⊢; exact ih _ _ _ _ _ hr
                · rw [if_neg c7] at hr ⊢; exact ih _ _ _ _ _ hr
          · rw [if_neg c3] at hr ⊢; exact ih _ _ _ _ _ hr
        · rw [if_neg c2] at hr ⊢; exact ih _ _ _ _ _ hr
theorem fuelN {q v g i : Int32} {k h j : Int32} {M : MM} {r : Int32 × MM} {f : Nat} (hr : q_Mod_search q v g i f k h j M = some r) : ∀ e, q_Mod_search q v g i (f + e) k h j M = some r := by
  intro e
  induction e with
  | zero => exact hr
  | succ e ih => exact fuel1 _ _ _ _ _ _ ih
theorem fuel_eq {q v g i : Int32} {k h j : Int32} {M : MM} {r1 r2 : Int32 × MM} {a b : Nat} (h1 : q_Mod_search q v g i a k h j M = some r1) (h2 : q_Mod_search q v g i b k h j M = some r2) : r1 = r2 := by
  have g1 := fuelN h1 b
  have g2 := fuelN h2 a
  rw [Nat.add_comm b a] at g2
  exact Option.some.inj (g1.symm.trans g2)
theorem neg_end {q v g i h j : Int32} {M : MM} (f : Nat) : q_Mod_search q v g i (f + 1) (nI 0 + (-1)) h j M = some (h, M) := by
  rw [q_Mod_search, if_pos (by decide)]
theorem full_Q {n : Nat} (hn : n ≤ 6) : (1 <<< (nI n &&& 31)) - 1 = nI (2 ^ n - 1) := by
  have : n = 0 ∨ n = 1 ∨ n = 2 ∨ n = 3 ∨ n = 4 ∨ n = 5 ∨ n = 6 := by omega
  rcases this with rfl | rfl | rfl | rfl | rfl | rfl | rfl <;> decide +kernel
theorem full_c {n : Nat} (hn : n ≤ 6) : c6 (2 ^ n - 1) = n := by
  have : n = 0 ∨ n = 1 ∨ n = 2 ∨ n = 3 ∨ n = 4 ∨ n = 5 ∨ n = 6 := by omega
  rcases this with rfl | rfl | rfl | rfl | rfl | rfl | rfl <;> decide +kernel
theorem full_lt (n : Nat) : 2 ^ n - 1 < 2 ^ n := by have : 0 < 2 ^ n := Nat.two_pow_pos n; omega
theorem LR.start {Q : Nat} (hQ : Q < 64) (cs : Nat → Int32) : LR Q Q 0 cs := ⟨hQ, fun hh _ => ⟨fun a => ⟨a, fun p hp => absurd hp (by omega)⟩, fun a => a.1⟩⟩
theorem ms_ne {M : MM} {q v g : Int32} {n Q : Nat} (hn : n ≤ 6) (hN : M 0 1 = nI n) (hq : q = nI Q) (hQ : Q < 2 ^ n) (h0 : ¬ c6 Q = 0) : r_Mod_search sN M q v g = q_Mod_search q v g (nI (c6 Q)) sN 0 0 0 (s9 M 0 (-1)) := by
  unfold r_Mod_search
  rw [cb_all M q hn hN, hq, c6_cb n hn Q hQ]
  have hle : c6 Q ≤ n := by rw [← c6_cb n hn Q hQ]; exact cb_le _ _
  exact if_neg (nI_ne0 (by omega) (by omega))
theorem ms_0 {M : MM} {q v g : Int32} {n Q : Nat} (hn : n ≤ 6) (hN : M 0 1 = nI n) (hq : q = nI Q) (hQ : Q < 2 ^ n) (h0 : c6 Q = 0) : r_Mod_search sN M q v g = some (1, s9 M 0 (-1)) := by
  unfold r_Mod_search
  rw [cb_all M q hn hN, hq, c6_cb n hn Q hQ, h0]
  exact if_pos nI_0
set_option maxHeartbeats 2000000 in
/-- the search for the least cost -/
theorem run_search {S M P : MM} {x : Nat → Int32} {v : Int32} {n : Nat} (hn : n ≤ 6) (hN : S 0 0 = nI n) (hB : SB S) (hS : SM S M) (hZ : PZ P) (h11 : M 0 11 = 0) (h10 : M 0 10 = 1) (hv : 0 ≤ v.toInt ∧ v.toInt ≤ 100000) :
    ∃ (res : Int32 × MM) (j' : Int32), r_Mod_search sN M ((1 <<< (M 0 1 &&& 31)) - 1) v 0 = some res ∧ KB res.2 M ∧ XR S n v res.1 j' res.2 (r_Srch_findBest S P x v).1 ∧ PZ (r_Srch_findBest S P x v).2 ∧ (((r_Srch_findBest S P x v).1 2 = 0 ∧ res.2 0 10 = 1) ∨ (¬ (r_Srch_findBest S P x v).1 2 = 0 ∧ res.2 0 10 = 0)) := by
  have hNM : M 0 1 = nI n := hS.1.1.symm.trans hN
  have e0 : (0 : Int32).toInt = 0 := by decide
  have hq : (1 <<< (M 0 1 &&& 31)) - 1 = nI (2 ^ n - 1) := by rw [hNM]; exact full_Q hn
  have hall : r_Shop_allHeats S = nI (2 ^ n - 1) := by
    show (1 <<< (S 0 0 &&& 31)) - 1 = _
    rw [hN]; exact full_Q hn
  have hfb : r_Srch_findBest S P x v = r_Srch_branch S 7 0 (nI (2 ^ n - 1)) 0 (tv [v, 0, 0, 0, x 4, x 5]) P := by
    unfold r_Srch_findBest
    rw [hall]
  have h64 : 2 ^ n - 1 < 64 := Nat.lt_of_lt_of_le (full_lt n) (Nat.pow_le_pow_right (by decide) hn)
  rw [hfb, hq]
  have hX0 : XR S n v 0 0 (s9 M 0 (-1)) (tv [v, 0, 0, 0, x 4, x 5]) := by
    refine ⟨rfl, ?_, rfl, Or.inl rfl, ?_, fun a => absurd rfl a⟩
    · rw [s9_11, h11]; rfl
    · show 0 ≤ (0 : Int32).toInt ∧ (0 : Int32).toInt ≤ v.toInt ∧ v.toInt ≤ 100000
      omega
  by_cases hn0 : n = 0
  · subst hn0
    have hbr : r_Srch_branch S 7 0 (nI (2 ^ 0 - 1)) 0 (tv [v, 0, 0, 0, x 4, x 5]) P = (tv [v, 0, 0, 1, 0, r_Plan_costOf S P 0], P) := by
      rw [r_Srch_branch]
      exact if_pos nI_0
    rw [hbr]
    refine ⟨(1, s9 M 0 (-1)), r_Plan_costOf S P 0, ms_0 (by omega) hNM rfl (by decide) (by decide), KB_s9 _ _ _, ?_, hZ, Or.inl ⟨rfl, (s9_10 M 0 (-1)).trans h10⟩⟩
    refine ⟨rfl, ?_, rfl, Or.inr rfl, ?_, fun _ => ⟨rfl, rfl, fun p hp => absurd hp (by omega), P, fun p hp => absurd hp (by omega), hZ⟩⟩
    · exact ((s9_11 M 0 (-1)).trans h11).symm
    · show 0 ≤ (0 : Int32).toInt ∧ (0 : Int32).toInt ≤ v.toInt ∧ v.toInt ≤ 100000
      omega
  · obtain ⟨d, hd⟩ : ∃ d, 0 + (d + 1) = n := ⟨n - 1, by omega⟩
    have hc := full_c hn
    have hne : ¬ c6 (2 ^ n - 1) = 0 := by omega
    have hms := ms_ne (v := v) (g := 0) hn hNM (rfl : nI (2 ^ n - 1) = nI (2 ^ n - 1)) (full_lt n) hne
    rw [hc] at hms
    have hO := simB hB hn hN (full_lt n) (v := v) d 0 hd (2 * n) 0 (by omega) 0 0 (s9 M 0 (-1)) (tv [v, 0, 0, 0, x 4, x 5]) P (2 ^ n - 1) 6 (by omega) (hS.of_KB (KB_s9 _ _ _)) (fun p hp => absurd hp (by omega)) hZ (fun p hp => absurd hp (by omega)) (LR.start h64 _) (by omega) (by rw [s9_9, pk_us]; rfl) hX0 (tv2 _ _ _ _ _ _) (by rw [s9_10]; exact h10)
    have hbr : r_Srch_branch S 7 0 (nI (2 ^ n - 1)) 0 (tv [v, 0, 0, 0, x 4, x 5]) P = bF (r_Srch_branch S 6) S (nI 0) (nI (2 ^ n - 1)) (nI (enc (s9 M 0 (-1) 9) 0)) (2 * n) 0 (tv [v, 0, 0, 0, x 4, x 5], P) := by
      have hz : ¬ nI (2 ^ n - 1) = 0 := nI_ne0 (by
        have : 2 ^ 1 ≤ 2 ^ n := Nat.pow_le_pow_right (by decide) (by omega)
        omega) (by omega)
      rw [r_Srch_branch]
      refine (if_neg hz).trans ?_
      have := br_fold (rc := r_Srch_branch S 6) (S := S) (k := nI 0) (q := nI (2 ^ n - 1)) (v := nI (enc (s9 M 0 (-1) 9) 0)) hn hN n 0 8 (tv [v, 0, 0, 0, x 4, x 5]) P (by omega) (by omega)
      exact this
    rw [← hbr] at hO
    obtain ⟨res0, r1, -⟩ := sr_out (q := nI (2 ^ n - 1)) (v := v) (g := 0) hn (Nat.le_refl n) (by omega) hNM
    generalize r_Srch_branch S 7 0 (nI (2 ^ n - 1)) 0 (tv [v, 0, 0, 0, x 4, x 5]) P = s2 at hO ⊢
    obtain ⟨z, ⟨a0, s, h', j', M', a1, a2, a3, a4, a5, a6⟩ | ⟨a0, s, j', res, a1, a2, a3, a4⟩⟩ := hO
    · have e := fuel_eq r1 ((a1 1).trans (neg_end 0))
      rw [e] at r1
      exact ⟨(h', M'), j', hms.trans r1, a2.tr (KB_s9 _ _ _), a5, z, Or.inl ⟨a0, a3⟩⟩
    · have e := fuel_eq r1 (a1 0)
      rw [e] at r1
      exact ⟨res, j', hms.trans r1, a2.tr (KB_s9 _ _ _), a4, z, Or.inr ⟨a0, a3⟩⟩
set_option maxHeartbeats 2000000 in
/-- whether a set of heats has a good plan -/
theorem can_search {S M P : MM} {x : Nat → Int32} {v g : Int32} {n Q : Nat} (hg : ¬ g = 0) (hn : n ≤ 6) (hN : S 0 0 = nI n) (hB : SB S) (hS : SM S M) (hZ : PZ P) (hQ : Q < 2 ^ n) :
    ∃ res : Int32 × MM, r_Mod_search sN M (nI Q) v g = some res ∧ KC res.2 M ∧ PZ (r_Srch_hasGoodPlan S P x (nI Q)).2 ∧ ((res.1 = 0 ∧ (r_Srch_hasGoodPlan S P x (nI Q)).1 = 0) ∨ (¬ res.1 = 0 ∧ ¬ (r_Srch_hasGoodPlan S P x (nI Q)).1 = 0)) := by
  have hNM : M 0 1 = nI n := hS.1.1.symm.trans hN
  have h64 : Q < 64 := Nat.lt_of_lt_of_le hQ (Nat.pow_le_pow_right (by decide) hn)
  have hgp : r_Srch_hasGoodPlan S P x (nI Q) = r_Srch_canEnd S 7 0 (nI Q) P := rfl
  rw [hgp]
  by_cases hc0 : c6 Q = 0
  · have hQ0 : Q = 0 := (c6_0 Q h64).mp hc0
    subst hQ0
    have hbr : r_Srch_canEnd S 7 0 (nI 0) P = (1, P) := by
      rw [r_Srch_canEnd]
      exact if_pos nI_0
    rw [hbr]
    exact ⟨(1, s9 M 0 (-1)), ms_0 hn hNM rfl hQ hc0, KC_s9 _ _ _, hZ, Or.inr ⟨(by decide : ¬ (1 : Int32) = 0), (by decide : ¬ (1 : Int32) = 0)⟩⟩
  · have hle : c6 Q ≤ n := by rw [← c6_cb n hn Q hQ]; exact cb_le _ _
    obtain ⟨d, hd⟩ : ∃ d, 0 + (d + 1) = c6 Q := ⟨c6 Q - 1, by omega⟩
    have hms := ms_ne (v := v) (g := g) hn hNM (rfl : nI Q = nI Q) hQ hc0
    have hO := simC hB hn hle hN hQ (v := v) (j := 0) hg d 0 hd (2 * n) 0 (by omega) (s9 M 0 (-1)) P Q 6 (by omega) (hS.of_KB (KB_s9 _ _ _)) (fun p hp => absurd hp (by omega)) hZ (fun p hp => absurd hp (by omega)) (LR.start h64 _) (by omega) (by rw [s9_9, pk_us]; rfl)
    have hbr : r_Srch_canEnd S 7 0 (nI Q) P = cF (r_Srch_canEnd S 6) S (nI 0) (nI Q) (2 * n) 0 (0, P) := by
      have hz : ¬ nI Q = 0 := nI_ne0 (Nat.pos_of_ne_zero (fun e => hc0 ((c6_0 Q h64).mpr e))) (by omega)
      rw [r_Srch_canEnd]
      refine (if_neg hz).trans ?_
      exact ce_fold (rc := r_Srch_canEnd S 6) (S := S) (k := nI 0) (q := nI Q) hn hN n 0 8 P (by omega) (by omega)
    rw [← hbr] at hO
    obtain ⟨res0, r1, -⟩ := sr_out (q := nI Q) (v := v) (g := g) hn hle (by omega) hNM
    generalize r_Srch_canEnd S 7 0 (nI Q) P = s2 at hO ⊢
    obtain ⟨z, ⟨a0, s, M', a1, a2, a3, a4⟩ | ⟨a0, s, res, a1, a2, a3⟩⟩ := hO
    · have e := fuel_eq r1 ((a1 1).trans (neg_end 0))
      rw [e] at r1
      exact ⟨(0, M'), hms.trans r1, a2.tr (KC_s9 _ _ _), z, Or.inl ⟨rfl, a0⟩⟩
    · have e := fuel_eq r1 (a1 0)
      rw [e] at r1
      exact ⟨res, hms.trans r1, a3.tr (KC_s9 _ _ _), z, Or.inr ⟨by rw [a2]; decide, a0⟩⟩
