/-! the mathematics: in sequence, on both sides -/
theorem ti_sub {a b : Int32} (ha : 0 ≤ a.toInt ∧ a.toInt ≤ 1000000) (hb : 0 ≤ b.toInt ∧ b.toInt ≤ 1000000) : (a - b).toInt = a.toInt - b.toInt := by
  rw [Int32.toInt_sub]
  exact Int.bmod_eq_of_le (by omega) (by omega)
theorem abs_far {a b : Int32} (ha : 0 ≤ a.toInt ∧ a.toInt ≤ 1000000) (hb : 0 ≤ b.toInt ∧ b.toInt ≤ 1000000) : (if 0 ≤ a - b then a - b else 0 - (a - b)) = if b ≤ a then a - b else b - a := by
  have h1 := ti_sub ha hb
  have e0 : (0 : Int32).toInt = 0 := by decide
  by_cases h : b ≤ a
  · have h2 : 0 ≤ a - b := by
      rw [Int32.le_iff_toInt_le] at h ⊢
      omega
    rw [if_pos h, if_pos h2]
  · have h2 : ¬ 0 ≤ a - b := by
      rw [Int32.le_iff_toInt_le] at h ⊢
      omega
    rw [if_neg h, if_neg h2, Int32.zero_sub, Int32.neg_sub]
theorem far_eq {S M : Nat → Nat → Int32} (e2 : S 2 = M 2) (hw : ∀ j, 0 ≤ (S 2 j).toInt ∧ (S 2 j).toInt ≤ 2000) (a b : Int32) : (if 0 ≤ S 2 a.toNatClampNeg - S 2 b.toNatClampNeg then S 2 a.toNatClampNeg - S 2 b.toNatClampNeg else 0 - (S 2 a.toNatClampNeg - S 2 b.toNatClampNeg)) = r_Mod_far M a b := by
  have h1 := hw a.toNatClampNeg
  have h2 := hw b.toNatClampNeg
  rw [abs_far (by omega) (by omega), e2]
  unfold r_Mod_far
  rfl
theorem neg_1 {x : Int32} (h : x = -1 ∨ 0 ≤ x.toInt) : x = -1 ↔ x < 0 := by
  have e0 : (0 : Int32).toInt = 0 := by decide
  have e1 : (-1 : Int32).toInt = -1 := by decide
  rw [Int32.lt_iff_toInt_lt, e0]
  constructor
  · intro h1; rw [h1, e1]; omega
  · intro h1
    rcases h with h2 | h2
    · exact h2
    · omega
theorem cl_n {x : Int32} {n : Nat} (h : vp_in x n) : x.toNatClampNeg < n := Nat.not_le.mp fun q => h (Or.inr q)
theorem mov_eq {S M : Nat → Nat → Int32} (e1 : S 1 = M 1) (e7 : ∀ j, j < 36 → S 7 j = M 7 j) (hG : ∀ j, vp_in (S 1 j) 6) (a b : Int32) : r_Shop_moveBetween S a b = M 7 (6 * M 1 a.toNatClampNeg + M 1 b.toNatClampNeg).toNatClampNeg := by
  have h := in_66b (hG a.toNatClampNeg) (hG b.toNatClampNeg)
  show S 7 (S 1 a.toNatClampNeg * 6 + S 1 b.toNatClampNeg).toNatClampNeg = _
  rw [Int32.mul_comm, e7 _ (cl_n h), e1]
theorem seq_eq {S P M : Nat → Nat → Int32} {k q m : Int32} (e1 : S 1 = M 1) (e2 : S 2 = M 2) (e7 : ∀ j, j < 36 → S 7 j = M 7 j) (e3 : S 0 3 = M 0 4) (e4 : S 0 4 = M 0 5) (e5 : S 0 5 = M 0 6) (hG : ∀ j, vp_in (S 1 j) 6) (hw : ∀ j, 0 ≤ (S 2 j).toInt ∧ (S 2 j).toInt ≤ 2000) (hm : ∀ j, j < 36 → M 7 j = -1 ∨ 0 ≤ (M 7 j).toInt)
    (hl : (wL M k).1 = q) (h0 : P 0 q.toNatClampNeg = wH M q) (h1 : P 0 k.toNatClampNeg = wH M k) (h7 : P 7 q.toNatClampNeg = (wL M k).2) (h3 : P 3 k.toNatClampNeg = m) (h5 : P 5 q.toNatClampNeg = M 12 q.toNatClampNeg) : cSq S P q k = wSeq M k m := by
  have hb : (6 * M 1 (wH M q).toNatClampNeg + M 1 (wH M k).toNatClampNeg).toNatClampNeg < 36 := by
    have h := in_66b (hG (wH M q).toNatClampNeg) (hG (wH M k).toNatClampNeg)
    rw [e1] at h
    exact cl_n h
  have hn := neg_1 (hm _ hb)
  unfold cSq r_Plan_goesOn
  simp only [h0, h1, h7, h3, h5, e3, e4, e5, mov_eq e1 e7 hG, far_eq e2 hw]
  unfold wSeq wCost
  rw [hl]
  by_cases c1 : M 7 (6 * M 1 (wH M q).toNatClampNeg + M 1 (wH M k).toNatClampNeg).toNatClampNeg = -1
  · rw [if_pos c1, if_pos (hn.mp c1)]
  · rw [if_neg c1, if_neg (fun z => c1 (hn.mpr z))]
/-- step k's change, begin, end, lateness and move cost are the same on both sides -/
theorem stp_eq {S P M : Nat → Nat → Int32} {k q m : Int32} (hs : cSq S P q k = wSeq M k m) (e2 : S 0 2 = M 0 3) (hl : (wL M k).1 = q) (hq : q = -1 ∨ 0 ≤ q.toInt) (hm0 : 0 ≤ m.toInt) (h3 : P 3 k.toNatClampNeg = m) (h5 : P 5 q.toNatClampNeg = M 12 q.toNatClampNeg) : cChg S P k q = wChg M k m ∧ cBeg S P k q = wBeg M k m := by
  have hn := neg_1 hq
  have e0 : (0 : Int32).toInt = 0 := by decide
  by_cases c : q = -1
  · have c' : (wL M k).1 < 0 := by rw [hl]; exact hn.mp c
    have a1 : cChg S P k q = 0 := if_pos c
    have a2 : wChg M k m = 0 := if_pos c'
    have a3 : cRdy S P k q = 0 := if_pos c
    have a4 : wBeg M k m = m := if_pos c'
    refine ⟨a1.trans a2.symm, ?_⟩
    unfold cBeg
    rw [a3, a4, h3, if_neg (by rw [Int32.lt_iff_toInt_lt]; omega)]
  · have c' : ¬ (wL M k).1 < 0 := by rw [hl]; exact fun z => c (hn.mpr z)
    have a1 : cChg S P k q = if wSeq M k m = 0 then 1 else 0 := (if_neg c).trans (by rw [hs])
    have a2 : wChg M k m = if wSeq M k m = 0 then 1 else 0 := if_neg c'
    have a3 : cRdy S P k q = wFrom M k m := by
      refine (if_neg c).trans ?_
      unfold wFrom
      rw [a1, hl, h5, e2]
      by_cases d : wSeq M k m = 0
      · rw [if_pos d, if_pos d, Int32.one_mul]
      · rw [if_neg d, if_neg d, Int32.zero_mul, Int32.add_zero]
    have a4 : wBeg M k m = if wFrom M k m ≤ m then m else wFrom M k m := if_neg c'
    refine ⟨a1.trans a2.symm, ?_⟩
    unfold cBeg
    rw [a3, a4, h3]
    by_cases d : wFrom M k m ≤ m
    · rw [if_pos d, if_neg (by rw [Int32.lt_iff_toInt_lt]; rw [Int32.le_iff_toInt_le] at d; omega)]
    · rw [if_neg d, if_pos (by rw [Int32.lt_iff_toInt_lt]; rw [Int32.le_iff_toInt_le] at d; omega)]
theorem late_eq {e d : Int32} (he : 0 ≤ e.toInt ∧ e.toInt ≤ 1000000) (hd : 0 ≤ d.toInt ∧ d.toInt ≤ 1000000) : (if 0 < e - d then e - d else 0) = if e ≤ d then 0 else e - d := by
  have h1 := ti_sub he hd
  have e0 : (0 : Int32).toInt = 0 := by decide
  by_cases c : e ≤ d
  · rw [if_pos c, if_neg (by rw [Int32.lt_iff_toInt_lt]; rw [Int32.le_iff_toInt_le] at c; omega)]
  · rw [if_neg c, if_pos (by rw [Int32.lt_iff_toInt_lt]; rw [Int32.le_iff_toInt_le] at c; omega)]
