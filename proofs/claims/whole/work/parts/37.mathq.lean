/-! the mathematics: in sequence, on both sides -/
theorem ti_sub {a b : Int32} (ha : 0 ≤ a.toInt ∧ a.toInt ≤ 1000000) (hb : 0 ≤ b.toInt ∧ b.toInt ≤ 1000000) : (a - b).toInt = a.toInt - b.toInt := by
  rw [Int32.toInt_sub]
  exact Int.bmod_eq_of_le (by omega) (by omega)
theorem abs_far {a b : Int32} (ha : 0 ≤ a.toInt ∧ a.toInt ≤ 1000000) (hb : 0 ≤ b.toInt ∧ b.toInt ≤ 1000000) : (if 0 ≤ a - b then a - b else 0 - (a - b)) = if b ≤ a then a - b else b - a := by
  have h1 := ti_sub ha hb
  have e0 : (0 : Int32).toInt = 0 := by decide
  by_cases h : b ≤ a
  · have h2 : 0 ≤ a - b := by
      rw [Int32.le_iff_toInt_le] at h ⊢
      omega
    rw [if_pos h, if_pos h2]
  · have h2 : ¬ 0 ≤ a - b := by
      rw [Int32.le_iff_toInt_le] at h ⊢
      omega
    rw [if_neg h, if_neg h2, Int32.zero_sub, Int32.neg_sub]
theorem far_eq {S M : Nat → Nat → Int32} (e2 : S 2 = M 2) (hw : ∀ j, 0 ≤ (S 2 j).toInt ∧ (S 2 j).toInt ≤ 2000) (a b : Int32) : (if 0 ≤ S 2 a.toNatClampNeg - S 2 b.toNatClampNeg then S 2 a.toNatClampNeg - S 2 b.toNatClampNeg else 0 - (S 2 a.toNatClampNeg - S 2 b.toNatClampNeg)) = r_Mod_far M a b := by
  have h1 := hw a.toNatClampNeg
  have h2 := hw b.toNatClampNeg
  rw [abs_far (by omega) (by omega), e2]
  unfold r_Mod_far
  rfl
theorem neg_1 {x : Int32} (h : x = -1 ∨ 0 ≤ x.toInt) : x = -1 ↔ x < 0 := by
  have e0 : (0 : Int32).toInt = 0 := by decide
  have e1 : (-1 : Int32).toInt = -1 := by decide
  rw [Int32.lt_iff_toInt_lt, e0]
  constructor
  · intro h1; rw [h1, e1]; omega
  · intro h1
    rcases h with h2 | h2
    · exact h2
    · omega
