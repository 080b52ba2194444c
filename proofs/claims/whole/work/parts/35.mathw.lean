/-! the mathematics: workOut's step in plainer form -/
theorem b66_c {M N : Nat → Nat → Int32} (h9 : N 9 = M 9) (h13 : N 13 = M 13) (k : Int32) : ∀ (n : Nat) (i j h : Int32), b_Mod_workOut_66 N k n i j h = b_Mod_workOut_66 M k n i j h := by
  intro n
  induction n with
  | zero => intro i j h; rfl
  | succ n ih =>
    intro i j h
    rw [b_Mod_workOut_66, b_Mod_workOut_66, h9, h13]
    simp only [ih]
theorem upd_2 (f : Nat → Int32) (k : Nat) (x y : Int32) : upd (upd f k x) k y = upd f k y := by
  funext j
  unfold upd
  by_cases h : j = k
  · rw [if_pos h, if_pos h]
  · rw [if_neg h, if_neg h, if_neg h]
def wH (M : Nat → Nat → Int32) (k : Int32) : Int32 := M 9 k.toNatClampNeg / 2
def wC (M : Nat → Nat → Int32) (k : Int32) : Int32 := M 9 k.toNatClampNeg - M 9 k.toNatClampNeg / 2 * 2
/-- the caster's step ahead of step k, and how many heats its tundish has cast -/
def wL (M : Nat → Nat → Int32) (k : Int32) : Int32 × Int32 := b_Mod_workOut_66 M k 8 0 (-1) 0
def wCost (M : Nat → Nat → Int32) (k : Int32) : Int32 := M 7 (6 * M 1 (wH M (wL M k).1).toNatClampNeg + M 1 (wH M k).toNatClampNeg).toNatClampNeg
/-- whether step k goes on in sequence; m the minute at which it is melted -/
def wSeq (M : Nat → Nat → Int32) (k m : Int32) : Int32 := if wCost M k < 0 then 0 else if M 0 6 < r_Mod_far M (wH M (wL M k).1) (wH M k) then 0 else if M 0 5 ≤ (wL M k).2 then 0 else if M 0 4 < m - M 12 (wL M k).1.toNatClampNeg then 0 else 1
def wChg (M : Nat → Nat → Int32) (k m : Int32) : Int32 := if (wL M k).1 < 0 then 0 else if wSeq M k m = 0 then 1 else 0
def wFrom (M : Nat → Nat → Int32) (k m : Int32) : Int32 := if wSeq M k m = 0 then M 12 (wL M k).1.toNatClampNeg + M 0 3 else M 12 (wL M k).1.toNatClampNeg
def wBeg (M : Nat → Nat → Int32) (k m : Int32) : Int32 := if (wL M k).1 < 0 then m else if wFrom M k m ≤ m then m else wFrom M k m
def wEnd (M : Nat → Nat → Int32) (k m : Int32) : Int32 := wBeg M k m + M 4 (wH M k).toNatClampNeg
def wLate (M : Nat → Nat → Int32) (k m : Int32) : Int32 := if wEnd M k m ≤ M 5 (wH M k).toNatClampNeg then 0 else wEnd M k m - M 5 (wH M k).toNatClampNeg
def wMov (M : Nat → Nat → Int32) (k m : Int32) : Int32 := if (wL M k).1 < 0 then 0 else if wSeq M k m = 0 then 0 else wCost M k
def wGood (M : Nat → Nat → Int32) (k m h : Int32) : Int32 := if h = 0 then 0 else if M 0 2 < wBeg M k m - m then 0 else if (M 6 (wH M k).toNatClampNeg >>> (wC M k &&& 31)) &&& 1 = 1 then 1 else 0
/-- the model's table behind step k -/
def wTab (M : Nat → Nat → Int32) (k m : Int32) : Nat → Nat → Int32 := tb [tv [M 0 0, M 0 1, M 0 2, M 0 3, M 0 4, M 0 5, M 0 6, M 0 7, M 0 8, M 0 9, M 0 10, M 0 11, M 0 12, M 0 13 + wMov M k m, M 0 14 + wChg M k m, M 0 15 + wLate M k m], M 1, M 2, M 3, M 4, M 5, M 6, M 7, M 8, M 9, upd (M 10) k.toNatClampNeg m, upd (M 11) k.toNatClampNeg (wBeg M k m), upd (M 12) k.toNatClampNeg (wEnd M k m), upd (M 13) k.toNatClampNeg (wChg M k m)]
theorem far_c {M N : Nat → Nat → Int32} (h2 : N 2 = M 2) (h q : Int32) : r_Mod_far N h q = r_Mod_far M h q := by
  unfold r_Mod_far
  rw [h2]
theorem nar_01 {v : Int32} (h : v = 0 ∨ v = 1) : vp_nar .boolean v = v := by
  rcases h with rfl | rfl <;> rfl
theorem ite_01 {c : Prop} [Decidable c] : (if c then (1 : Int32) else 0) = 0 ∨ (if c then (1 : Int32) else 0) = 1 := by
  by_cases h : c
  · exact Or.inr (if_pos h)
  · exact Or.inl (if_neg h)
set_option maxHeartbeats 4000000 in
theorem work_form (q : Int32) (n : Nat) (k j h : Int32) (M : Nat → Nat → Int32) (hc : ¬ q ≤ k) : q_Mod_workOut q (n + 1) k j h M = q_Mod_workOut q n (k + 1) (j + M 3 (wH M k).toNatClampNeg) (wGood M k (j + M 3 (wH M k).toNatClampNeg) h) (wTab M k (j + M 3 (wH M k).toNatClampNeg)) := by
  rw [q_Mod_workOut, if_neg hc]
  have eb : b_Mod_workOut_66 (tb [M 0, M 1, M 2, M 3, M 4, M 5, M 6, M 7, M 8, M 9, upd (M 10) k.toNatClampNeg (j + M 3 (wH M k).toNatClampNeg), M 11, M 12, M 13]) k 8 0 (-1) 0 = wL M k := b66_c rfl rfl k 8 0 (-1) 0
  have ef : ∀ x y z w : Nat → Int32, ∀ a b, r_Mod_far (tb [M 0, M 1, M 2, M 3, M 4, M 5, M 6, M 7, M 8, M 9, x, y, z, w]) a b = r_Mod_far M a b := fun x y z w a b => far_c rfl a b
  have e0 : vp_nar .boolean 0 = 0 := rfl
  have eh : M 9 k.toNatClampNeg / 2 = wH M k := rfl
  simp only [eh, eb, ef, e0, pk_us, upd_2]
  by_cases c1 : (wL M k).1 < 0
  · rw [if_pos c1]
    have a1 : wMov M k (j + M 3 (wH M k).toNatClampNeg) = 0 := if_pos c1
    have a2 : wChg M k (j + M 3 (wH M k).toNatClampNeg) = 0 := if_pos c1
    have a3 : wBeg M k (j + M 3 (wH M k).toNatClampNeg) = j + M 3 (wH M k).toNatClampNeg := if_pos c1
    unfold wTab wGood wLate wEnd
    rw [a1, a2, a3, Int32.add_zero, Int32.add_zero]
    rfl
  · rw [if_neg c1, nar_01]
    · have a1 : wMov M k (j + M 3 (wH M k).toNatClampNeg) = if wSeq M k (j + M 3 (wH M k).toNatClampNeg) = 0 then 0 else wCost M k := if_neg c1
      have a2 : wChg M k (j + M 3 (wH M k).toNatClampNeg) = if wSeq M k (j + M 3 (wH M k).toNatClampNeg) = 0 then 1 else 0 := if_neg c1
      have a3 : wBeg M k (j + M 3 (wH M k).toNatClampNeg) = if wFrom M k (j + M 3 (wH M k).toNatClampNeg) ≤ j + M 3 (wH M k).toNatClampNeg then j + M 3 (wH M k).toNatClampNeg else wFrom M k (j + M 3 (wH M k).toNatClampNeg) := if_neg c1
      unfold wTab wGood wLate wEnd
      rw [a1, a2, a3]
      rfl
    · exact ite_01
