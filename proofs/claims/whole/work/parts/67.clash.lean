/-! the mathematics: bound and clash, on both sides -/
theorem bnd_go {S M : MM} {n : Nat} (hn : n ≤ 6) (hS : SM S M) (hN : S 0 0 = nI n) : ∀ (r i f : Nat) (j : Int32), i + r = n → r < f → q_Mod_bound f (nI i) j M = (q_Ord_bound S f (nI i) j, M) := by
  have hNM : M 0 1 = nI n := hS.1.1.symm.trans hN
  intro r
  induction r with
  | zero =>
    intro i f j h1 h2
    match f, h2 with
    | f + 1, _ =>
      rw [q_Mod_bound, q_Ord_bound, hNM, hN, if_pos (nI_le (by omega) (by omega)), if_pos (nI_le (by omega) (by omega))]
  | succ r ih =>
    intro i f j h1 h2
    match f, h2 with
    | f + 1, h2 =>
      rw [q_Mod_bound, q_Ord_bound, hNM, hN, if_neg (nI_ge (by omega) (by omega)), if_neg (nI_ge (by omega) (by omega))]
      try dsimp only
      rw [nI_1, ih (i + 1) f _ (by omega) (by omega)]
      have e0 : (0 : Int32).toInt = 0 := by decide
      have hst : (if M 3 (nI i).toNatClampNeg + M 4 (nI i).toNatClampNeg - M 5 (nI i).toNatClampNeg ≤ 0 then 0 else (M 3 (nI i).toNatClampNeg + M 4 (nI i).toNatClampNeg - M 5 (nI i).toNatClampNeg) * M 0 8) = r_Shop_lateMinutes S (nI i) (S 3 (nI i).toNatClampNeg + S 4 (nI i).toNatClampNeg) * S 0 7 := by
        obtain ⟨⟨s0, s1, s2, s3, s4, s5, s6, s7⟩, g1, g2, g3, g4, g5, g6, g7⟩ := hS
        unfold r_Shop_lateMinutes
        rw [← g3, ← g4, ← g5, ← s7]
        show (if S 3 (nI i).toNatClampNeg + S 4 (nI i).toNatClampNeg - S 5 (nI i).toNatClampNeg ≤ 0 then 0 else (S 3 (nI i).toNatClampNeg + S 4 (nI i).toNatClampNeg - S 5 (nI i).toNatClampNeg) * S 0 7) = (if 0 < S 3 (nI i).toNatClampNeg + S 4 (nI i).toNatClampNeg - S 5 (nI i).toNatClampNeg then S 3 (nI i).toNatClampNeg + S 4 (nI i).toNatClampNeg - S 5 (nI i).toNatClampNeg else 0) * S 0 7
        generalize S 3 (nI i).toNatClampNeg + S 4 (nI i).toNatClampNeg - S 5 (nI i).toNatClampNeg = d
        by_cases c : d ≤ 0
        · rw [if_pos c, if_neg (by rw [Int32.lt_iff_toInt_lt]; rw [Int32.le_iff_toInt_le] at c; omega), Int32.zero_mul]
        · rw [if_neg c, if_pos (by rw [Int32.lt_iff_toInt_lt]; rw [Int32.le_iff_toInt_le] at c; omega)]
      rw [hst]
theorem mt_bound (C : TC) (M : MM) (hR : Rel C M) : r_Ord_bound C.2.2.2.2 = (r_Mod_bound M).1 ∧ Rel C (r_Mod_bound M).2 := by
  obtain ⟨n, hn, hN⟩ : ∃ n : Nat, n ≤ 6 ∧ C.2.2.2.2 0 0 = nI n := hR.2.1.1
  have hS : SM C.2.2.2.2 (tM M 0) := hR.1.of_KR (KR_tM M 0)
  have h := bnd_go hn hS hN n 0 8 0 (by omega) (by omega)
  have h' : r_Mod_bound M = (r_Ord_bound C.2.2.2.2, tM M 0) := h
  rw [h']
  exact ⟨rfl, hR.mv (KR_tM M 0)⟩
theorem clr_g : ∀ L, L < 64 → ∀ h, h < 6 → nI L &&& ((1 <<< (nI h &&& 31)) ^^^ (-1)) = nI (L - L / 2 ^ h % 2 * 2 ^ h) := by decide +kernel
theorem clash_go {S : MM} {x : Nat → Int32} {n : Nat} (hn : n ≤ 6) (hN : S 0 0 = nI n) (hB : SB S) : ∀ (r i f : Nat) (M P : MM) (L : Nat), i + r = n → r < f → SM S M → PZ P → (∀ j, vp_in (P 0 j) 6) → L < 2 ^ n →
    ∃ (w : Int32) (P' M' : MM), q_Ord_clash S x f (nI i) (nI L) P = (w, P') ∧ q_Mod_clash sN f (nI i) (nI L) M = (w, M') ∧ KC M' M ∧ PZ P' ∧ (∀ j, vp_in (P' 0 j) 6) := by
  intro r
  induction r with
  | zero =>
    intro i f M P L h1 h2 hS hZ hp hL
    have hNM : M 0 1 = nI n := hS.1.1.symm.trans hN
    match f, h2 with
    | f + 1, _ =>
      refine ⟨nI L, P, M, ?_, ?_, KC.rf M, hZ, hp⟩
      · rw [q_Ord_clash, hN, if_pos (nI_le (by omega) (by omega))]
      · rw [q_Mod_clash, hNM, if_pos (nI_le (by omega) (by omega))]
  | succ r ih =>
    intro i f M P L h1 h2 hS hZ hp hL
    have hNM : M 0 1 = nI n := hS.1.1.symm.trans hN
    match f, h2 with
    | f + 1, h2 =>
      have hL64 : L < 64 := Nat.lt_of_lt_of_le hL (Nat.pow_le_pow_right (by decide) hn)
      have hL' : L - L / 2 ^ i % 2 * 2 ^ i < 2 ^ n := Nat.lt_of_le_of_lt (Nat.sub_le _ _) hL
      obtain ⟨res, r1, r2, r3, r4⟩ := can_search (P := P) (x := x) (v := 0) (g := 1) e10 hn hN hB hS hZ hL'
      have hsr : sr sN M (nI (L - L / 2 ^ i % 2 * 2 ^ i)) 0 1 = res := by unfold sr; rw [r1]; rfl
      have hp' := hgp_hp (x := x) (q := nI (L - L / 2 ^ i % 2 * 2 ^ i)) ⟨n, hn, hN⟩ hp
      have hS' : SM S res.2 := hS.of_KB r2.KB
      rw [q_Ord_clash, q_Mod_clash, hN, hNM, if_neg (nI_ge (by omega) (by omega)), if_neg (nI_ge (by omega) (by omega))]
      try dsimp only
      rw [clr_g L hL64 i (by omega), hsr, nI_1]
      rcases r4 with ⟨a, b⟩ | ⟨a, b⟩
      · rw [if_pos a, if_pos b]
        obtain ⟨w, P', M', t1, t2, t3, t4, t5⟩ := ih (i + 1) f res.2 _ (L - L / 2 ^ i % 2 * 2 ^ i) (by omega) (by omega) hS' r3 hp' hL'
        exact ⟨w, P', M', t1, t2, t3.tr r2, t4, t5⟩
      · rw [if_neg a, if_neg b]
        obtain ⟨w, P', M', t1, t2, t3, t4, t5⟩ := ih (i + 1) f res.2 _ L (by omega) (by omega) hS' r3 hp' hL
        exact ⟨w, P', M', t1, t2, t3.tr r2, t4, t5⟩
theorem mt_clash (C : TC) (M : MM) (hR : Rel C M) : (r_Ord_clash C.2.2.2.2 C.2.2.1 C.2.1).1 = (r_Mod_clash sN M).1 ∧ Rel (C.1, C.2.1, (r_Ord_clash C.2.2.2.2 C.2.2.1 C.2.1).2, C.2.2.2.1, C.2.2.2.2) (r_Mod_clash sN M).2 := by
  obtain ⟨y, x, P, Q, S⟩ := C
  show (r_Ord_clash S P x).1 = (r_Mod_clash sN M).1 ∧ Rel (y, x, (r_Ord_clash S P x).2, Q, S) (r_Mod_clash sN M).2
  obtain ⟨n, hn, hN⟩ : ∃ n : Nat, n ≤ 6 ∧ S 0 0 = nI n := hR.2.1.1
  have hB : SB S := hR.2.1
  have hS : SM S (tM M 0) := SM.of_KR hR.1 (KR_tM M 0)
  have hNM : M 0 1 = nI n := hR.1.1.1.symm.trans hN
  have hall : r_Shop_allHeats S = nI (2 ^ n - 1) := by
    show (1 <<< (S 0 0 &&& 31)) - 1 = _
    rw [hN]; exact full_Q hn
  have hq : (1 <<< (M 0 1 &&& 31)) - 1 = nI (2 ^ n - 1) := by rw [hNM]; exact full_Q hn
  have hZ : PZ P := hR.2.2.1.1
  have hp : ∀ j, vp_in (P 0 j) 6 := hR.2.2.2.1.1
  obtain ⟨res, r1, r2, r3, r4⟩ := can_search (P := P) (x := x) (v := 0) (g := 1) e10 hn hN hB hS hZ (full_lt n)
  have hsr : sr sN (tM M 0) (nI (2 ^ n - 1)) 0 1 = res := by unfold sr; rw [r1]; rfl
  have hp' := hgp_hp (x := x) (q := nI (2 ^ n - 1)) ⟨n, hn, hN⟩ hp
  have hS' : SM S res.2 := hS.of_KB r2.KB
  have hC : r_Ord_clash S P x = if (r_Srch_hasGoodPlan S P x (nI (2 ^ n - 1))).1 = 0 then q_Ord_clash S x 8 (nI 0) (nI (2 ^ n - 1)) (r_Srch_hasGoodPlan S P x (nI (2 ^ n - 1))).2 else (0, (r_Srch_hasGoodPlan S P x (nI (2 ^ n - 1))).2) := by
    unfold r_Ord_clash
    rw [hall]
    rfl
  have hM : r_Mod_clash sN M = if (sr sN (tM M 0) ((1 <<< (M 0 1 &&& 31)) - 1) 0 1).1 = 0 then q_Mod_clash sN 8 (nI 0) ((1 <<< (M 0 1 &&& 31)) - 1) (sr sN (tM M 0) ((1 <<< (M 0 1 &&& 31)) - 1) 0 1).2 else (0, (sr sN (tM M 0) ((1 <<< (M 0 1 &&& 31)) - 1) 0 1).2) := rfl
  rw [hq, hsr] at hM
  rw [hC, hM]
  have fin : ∀ (P' M' : MM), KC M' (tM M 0) → PZ P' → (∀ j, vp_in (P' 0 j) 6) → Rel (y, x, P', Q, S) M' := fun P' M' a b c => by
    have hR' : Rel (y, x, P', Q, S) M := ⟨hR.1, hR.2.1, ⟨b, hR.2.2.1.2⟩, ⟨c, hR.2.2.2.1.2⟩, hR.2.2.2.2⟩
    exact hR'.mv (a.KR.tr (KR_tM M 0))
  rcases r4 with ⟨a, b⟩ | ⟨a, b⟩
  · rw [if_pos a, if_pos b]
    obtain ⟨w, P', M', t1, t2, t3, t4, t5⟩ := clash_go (x := x) hn hN hB n 0 8 res.2 _ (2 ^ n - 1) (by omega) (by omega) hS' r3 hp' (full_lt n)
    rw [t1, t2]
    exact ⟨rfl, fin P' M' (t3.tr r2) t4 t5⟩
  · rw [if_neg a, if_neg b]
    exact ⟨rfl, fin _ _ r2 r3 hp'⟩
