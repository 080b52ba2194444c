/-! the mathematics: tell, on both sides -/
theorem cpt {n : Nat} (hn : n ≤ 6) : ∀ (r i f : Nat) (M : MM), i + r = n → r < f → M 0 1 = nI n → (b_Mod_tell_141 f (nI i) M 0 = M 0 ∧ b_Mod_tell_141 f (nI i) M 1 = M 1 ∧ b_Mod_tell_141 f (nI i) M 2 = M 2 ∧ b_Mod_tell_141 f (nI i) M 3 = M 3 ∧ b_Mod_tell_141 f (nI i) M 4 = M 4 ∧ b_Mod_tell_141 f (nI i) M 5 = M 5 ∧ b_Mod_tell_141 f (nI i) M 6 = M 6 ∧ b_Mod_tell_141 f (nI i) M 7 = M 7) ∧ ∀ j, b_Mod_tell_141 f (nI i) M 8 j = if i ≤ j ∧ j < n then M 9 j else M 8 j := by
  intro r
  induction r with
  | zero =>
    intro i f M h1 h2 hN
    match f, h2 with
    | f + 1, _ =>
      have e : i = n := by omega
      subst e
      rw [b_Mod_tell_141, hN, if_pos (nI_le (Nat.le_refl _) (by omega))]
      exact ⟨⟨rfl, rfl, rfl, rfl, rfl, rfl, rfl, rfl⟩, fun j => by rw [if_neg (by omega)]⟩
  | succ r ih =>
    intro i f M h1 h2 hN
    match f, h2 with
    | f + 1, h2 =>
      rw [b_Mod_tell_141, hN, if_neg (nI_ge (by omega) (by omega))]
      try dsimp only
      rw [nI_1, nI_clamp (by omega : i < 2 ^ 31)]
      obtain ⟨g1, g2⟩ := ih (i + 1) f (tb [M 0, M 1, M 2, M 3, M 4, M 5, M 6, M 7, upd (M 8) i (M 9 i), M 9, M 10, M 11, M 12, M 13]) (by omega) (by omega) hN
      refine ⟨g1, fun j => ?_⟩
      rw [g2 j]
      show (if i + 1 ≤ j ∧ j < n then M 9 j else upd (M 8) i (M 9 i) j) = _
      by_cases hj : j = i
      · subst hj
        rw [if_neg (by omega), if_pos (by omega)]
        exact pk_us
      · rw [upd_ne hj]
        by_cases h3 : i + 1 ≤ j ∧ j < n
        · rw [if_pos h3, if_pos (by omega)]
        · rw [if_neg h3, if_neg (by omega)]
/-- the end of tell, behind the steps -/
def tE (M : MM) : Int32 × MM := if (r_Mod_workOut M (M 0 1)).1 = 0 then (0, tM (r_Mod_workOut M (M 0 1)).2 2) else (r_Mod_costNow (oM (b_Mod_tell_141 8 0 (tM (r_Mod_workOut M (M 0 1)).2 0)) 1), oM (b_Mod_tell_141 8 0 (tM (r_Mod_workOut M (M 0 1)).2 0)) 1)
theorem tell_bad (v q : Int32) (f : Nat) (k j : Int32) (M : MM) : q_Mod_tell v q (f + 1) k 1 j M = (0, tM M 1) := by
  rw [q_Mod_tell]
  by_cases c : M 0 1 ≤ k
  · rw [if_pos c, if_neg e10]; rfl
  · rw [if_neg c, if_neg e10]; rfl
theorem tell_fin (v q : Int32) (f : Nat) (k j : Int32) (M : MM) (c : M 0 1 ≤ k) : q_Mod_tell v q (f + 1) k 0 j M = tE M := by
  rw [q_Mod_tell, if_pos c, if_pos e00]
  unfold tE
  by_cases d : (r_Mod_workOut M (M 0 1)).1 = 0
  · simp only [if_pos d, th2]
    exact if_neg e10
  · simp only [if_neg d, th0, if_true]
    rfl
theorem tell_go (v q : Int32) (f : Nat) (k j : Int32) (M : MM) (c : ¬ M 0 1 ≤ k) : q_Mod_tell v q (f + 1) k 0 j M = q_Mod_tell v q f (k + 1) (if M 0 1 ≤ r_Ord_heatOf v k then 1 else if (j >>> (r_Ord_heatOf v k &&& 31)) &&& 1 = 1 then 1 else 0) (j ||| (1 <<< (r_Ord_heatOf v k &&& 31))) (s9 M k.toNatClampNeg (2 * r_Ord_heatOf v k + r_Ord_casterOf v k)) := by
  rw [q_Mod_tell, if_neg c, if_pos e00]
  rfl
theorem hOf (v k : Int32) : (∃ h, h < 8 ∧ r_Ord_heatOf v k = nI h) ∧ (∃ c, c < 2 ∧ r_Ord_casterOf v k = nI c) := by
  refine ⟨?_, ?_⟩
  · obtain ⟨h, h1, h2⟩ := pk_andE (v >>> (4 * k &&& 31)) (m := 7) 3 rfl
    exact ⟨h, h1, h2⟩
  · obtain ⟨h, h1, h2⟩ := pk_andE (v >>> (4 * k + 3 &&& 31)) (m := 1) 1 rfl
    exact ⟨h, h1, h2⟩
theorem nm_c : ∀ n, n ≤ 6 → ∀ L, L < 2 ^ n → ∀ h, h < 8 → (nI L &&& (1 <<< (nI h &&& 31)) = 0 ↔ ¬ (h < n ∧ L / 2 ^ h % 2 = 1)) := by decide +kernel
theorem nm_m : ∀ n, n ≤ 6 → ∀ L, L < 2 ^ n → ∀ h, h < n → ((nI (2 ^ n - 1 - L) >>> (nI h &&& 31)) &&& 1 = 1 ↔ ¬ L / 2 ^ h % 2 = 1) := by decide +kernel
theorem nm_u : ∀ n, n ≤ 6 → ∀ L, L < 2 ^ n → ∀ h, h < n → L / 2 ^ h % 2 = 1 → nI (2 ^ n - 1 - L) ||| (1 <<< (nI h &&& 31)) = nI (2 ^ n - 1 - (L - 2 ^ h)) := by decide +kernel
set_option maxHeartbeats 1000000 in
theorem tl_go {S : MM} {v q : Int32} {n : Nat} (hn : n ≤ 6) : ∀ (r i f f' : Nat) (M : MM) (L : Nat), i + r = n → r < f → r < f' → L < 2 ^ n → M 0 1 = nI n →
    (q_Ord_namesEachHeat S v (nI n) f' (nI i) (nI L) = 0 ∧ ∃ M' : MM, KC M' M ∧ q_Mod_tell v q (f + 1) (nI i) 0 (nI (2 ^ n - 1 - L)) M = (0, tM M' 1)) ∨
    (q_Ord_namesEachHeat S v (nI n) f' (nI i) (nI L) = 1 ∧ ∃ M' : MM, KC M' M ∧ (∀ p, p < i → M' 9 p = M 9 p) ∧ (∀ p, i ≤ p → p < n → ∃ h c, h < n ∧ c < 2 ∧ r_Ord_heatOf v (nI p) = nI h ∧ r_Ord_casterOf v (nI p) = nI c ∧ M' 9 p = nI (2 * h + c)) ∧ q_Mod_tell v q (f + 1) (nI i) 0 (nI (2 ^ n - 1 - L)) M = tE M') := by
  intro r
  induction r with
  | zero =>
    intro i f f' M L h1 h2 h2' hL hN
    match f', h2' with
    | f' + 1, _ =>
      have e : i = n := by omega
      subst e
      have hle : nI i ≤ nI i := nI_le (Nat.le_refl _) (by omega)
      refine Or.inr ⟨?_, M, KC.rf M, fun _ _ => rfl, fun p a b => absurd b (by omega), tell_fin v q f _ _ M (by rw [hN]; exact hle)⟩
      rw [q_Ord_namesEachHeat, if_pos hle]
  | succ r ih =>
    intro i f f' M L h1 h2 h2' hL hN
    match f, h2 with
    | f + 1, h2 =>
      match f', h2' with
      | f' + 1, h2' =>
        have hle : ¬ nI n ≤ nI i := nI_ge (by omega) (by omega)
        obtain ⟨⟨h, hh, eh⟩, ⟨c, hc, ec⟩⟩ := hOf v (nI i)
        have hgo := tell_go v q (f + 1) (nI i) (nI (2 ^ n - 1 - L)) M (by rw [hN]; exact hle)
        rw [nI_clamp (by omega : i < 2 ^ 31), eh, ec, nI_1, hN] at hgo
        have ecode : 2 * nI h + nI c = nI (2 * h + c) := by rw [show (2 : Int32) = nI 2 from rfl, pk_mul, nI_add]
        rw [ecode] at hgo
        rw [q_Ord_namesEachHeat, if_neg hle]
        try dsimp only
        rw [eh, nI_1]
        by_cases c1 : h < n ∧ L / 2 ^ h % 2 = 1
        · have hz : ¬ nI L &&& (1 <<< (nI h &&& 31)) = 0 := fun a => (nm_c n hn L hL h hh).mp a c1
          have hnb : ¬ (nI (2 ^ n - 1 - L) >>> (nI h &&& 31)) &&& 1 = 1 := fun a => (nm_m n hn L hL h c1.1).mp a c1.2
          have hL64 : L < 64 := Nat.lt_of_lt_of_le hL (Nat.pow_le_pow_right (by decide) hn)
          rw [if_neg (nI_ge c1.1 (by omega)), if_neg hnb, nm_u n hn L hL h c1.1 c1.2] at hgo
          rw [if_neg hz, clr_L L hL64 h (by omega) c1.2]
          rcases ih (i + 1) f f' (s9 M i (nI (2 * h + c))) (L - 2 ^ h) (by omega) (by omega) (by omega) (Nat.lt_of_le_of_lt (Nat.sub_le _ _) hL) hN with ⟨a1, M', a2, a3⟩ | ⟨a1, M', a2, a3, a4, a5⟩
          · exact Or.inl ⟨a1, M', a2.tr (KC_s9 _ _ _), hgo.trans a3⟩
          · refine Or.inr ⟨a1, M', a2.tr (KC_s9 _ _ _), fun p hp => ?_, fun p hp hpn => ?_, hgo.trans a5⟩
            · rw [a3 p (by omega), s9_9, upd_ne (by omega)]
            · by_cases e : p = i
              · subst e
                exact ⟨h, c, c1.1, hc, eh, ec, by rw [a3 p (by omega), s9_9]; exact pk_us⟩
              · exact a4 p (by omega) hpn
        · have hz : nI L &&& (1 <<< (nI h &&& 31)) = 0 := (nm_c n hn L hL h hh).mpr c1
          rw [if_pos hz]
          have hb : (if nI n ≤ nI h then (1 : Int32) else if (nI (2 ^ n - 1 - L) >>> (nI h &&& 31)) &&& 1 = 1 then 1 else 0) = 1 := by
            by_cases d : h < n
            · rw [if_neg (nI_ge d (by omega)), if_pos ((nm_m n hn L hL h d).mpr (fun a => c1 ⟨d, a⟩))]
            · rw [if_pos (nI_le (by omega) (by omega))]
          rw [hb, tell_bad] at hgo
          exact Or.inl ⟨rfl, s9 M i (nI (2 * h + c)), KC_s9 _ _ _, hgo⟩
theorem costM {T U : MM} (h : U 0 7 = T 0 7 ∧ U 0 8 = T 0 8 ∧ U 0 13 = T 0 13 ∧ U 0 14 = T 0 14 ∧ U 0 15 = T 0 15) : r_Mod_costNow U = r_Mod_costNow T := by
  obtain ⟨h7, h8, h13, h14, h15⟩ := h
  simp only [r_Mod_costNow, h7, h8, h13, h14, h15]
theorem oMc (T : MM) (w : Int32) : oM T w 0 7 = T 0 7 ∧ oM T w 0 8 = T 0 8 ∧ oM T w 0 13 = T 0 13 ∧ oM T w 0 14 = T 0 14 ∧ oM T w 0 15 = T 0 15 := ⟨rfl, rfl, rfl, rfl, rfl⟩
theorem tMc (T : MM) (w : Int32) : tM T w 0 7 = T 0 7 ∧ tM T w 0 8 = T 0 8 ∧ tM T w 0 13 = T 0 13 ∧ tM T w 0 14 = T 0 14 ∧ tM T w 0 15 = T 0 15 := ⟨rfl, rfl, rfl, rfl, rfl⟩
theorem tMf (T : MM) (w : Int32) : tM T w 0 0 = w ∧ tM T w 0 1 = T 0 1 ∧ tM T w 0 9 = T 0 9 ∧ tM T w 0 10 = T 0 10 ∧ tM T w 0 11 = T 0 11 ∧ tM T w 8 = T 8 ∧ tM T w 9 = T 9 := ⟨rfl, rfl, rfl, rfl, rfl, rfl, rfl⟩
theorem SM_cp {S T U : MM} (h : SM S T) (h0 : U 0 = T 0) (h1 : U 1 = T 1) (h2 : U 2 = T 2) (h3 : U 3 = T 3) (h4 : U 4 = T 4) (h5 : U 5 = T 5) (h6 : U 6 = T 6) (h7 : U 7 = T 7) : SM S U := by
  unfold SM at h ⊢
  rw [h0, h1, h2, h3, h4, h5, h6, h7]
  exact h
