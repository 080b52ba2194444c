/-! the mathematics: put in a plainer form -/
/-- the minute at which step k's melting begins -/
def mBeg (P : Nat → Nat → Int32) (k : Int32) : Int32 := if k = 0 then 0 else P 3 (k - 1).toNatClampNeg
/-- the plan with step k's heat, caster and melting laid -/
def pl1 (S P : Nat → Nat → Int32) (k h q : Int32) : Nat → Nat → Int32 := tb [upd (P 0) k.toNatClampNeg h, upd (P 1) k.toNatClampNeg q, upd (P 2) k.toNatClampNeg (mBeg P k), upd (P 3) k.toNatClampNeg (mBeg P k + S 3 h.toNatClampNeg), P 4, P 5, P 6, P 7, P 8, P 9, P 10]
/-- .. and with its casting -/
def pl2 (S P : Nat → Nat → Int32) (k h q : Int32) : Nat → Nat → Int32 := r_Plan_castStep S (pl1 S P k h q) k (r_Plan_latestOn S (pl1 S P k h q) q k)
theorem put_form (S P : Nat → Nat → Int32) (k h q : Int32) : r_Plan_put S P k h q = if r_Ord_within k 0 5 = 0 then (0, P) else if r_Ord_within h 0 (S 0 0 - 1) = 0 then (0, P) else if r_Shop_mayCast S h q = 0 then (0, P) else (if S 0 1 < pl2 S P k h q 4 k.toNatClampNeg - pl2 S P k h q 3 k.toNatClampNeg then 0 else 1, pl2 S P k h q) := by
  unfold r_Plan_put
  by_cases c1 : r_Ord_within k 0 5 = 0
  · simp only [if_pos c1]
  · by_cases c2 : r_Ord_within h 0 (S 0 0 - 1) = 0
    · simp only [if_neg c1, if_pos c2]
    · by_cases c3 : r_Shop_mayCast S h q = 0
      · simp only [if_neg c1, if_neg c2, if_pos c3]
      · simp only [if_neg c1, if_neg c2, if_neg c3]
        have e2 : ∀ x : Int32, upd (P 2) k.toNatClampNeg x k.toNatClampNeg = x := fun x => pk_us
        by_cases c4 : k = 0
        · have e1 : pl1 S P k h q = tb [upd (P 0) k.toNatClampNeg h, upd (P 1) k.toNatClampNeg q, upd (P 2) k.toNatClampNeg 0, upd (P 3) k.toNatClampNeg (0 + S 3 h.toNatClampNeg), P 4, P 5, P 6, P 7, P 8, P 9, P 10] := by
            unfold pl1 mBeg; rw [if_pos c4]
          unfold pl2
          rw [e1, if_pos c4, e2]
          split <;> rfl
        · have e1 : pl1 S P k h q = tb [upd (P 0) k.toNatClampNeg h, upd (P 1) k.toNatClampNeg q, upd (P 2) k.toNatClampNeg (P 3 (k - 1).toNatClampNeg), upd (P 3) k.toNatClampNeg (P 3 (k - 1).toNatClampNeg + S 3 h.toNatClampNeg), P 4, P 5, P 6, P 7, P 8, P 9, P 10] := by
            unfold pl1 mBeg; rw [if_neg c4]
          unfold pl2
          rw [e1, if_neg c4, e2]
          split <;> rfl
/-- whether step k is in sequence behind step q: the move is allowed, and width, life and gap let it go on -/
def cSq (S P : Nat → Nat → Int32) (q k : Int32) : Int32 := if r_Shop_moveBetween S (P 0 q.toNatClampNeg) (P 0 k.toNatClampNeg) = -1 then 0 else r_Plan_goesOn S P q k
/-- whether there is a change ahead of step k, q the caster's step before it -/
def cChg (S P : Nat → Nat → Int32) (k q : Int32) : Int32 := if q = -1 then 0 else if cSq S P q k = 0 then 1 else 0
def cTun (S P : Nat → Nat → Int32) (k q : Int32) : Int32 := if q = -1 then 1 else if cSq S P q k = 0 then 1 else P 7 q.toNatClampNeg + 1
def cRdy (S P : Nat → Nat → Int32) (k q : Int32) : Int32 := if q = -1 then 0 else P 5 q.toNatClampNeg + cChg S P k q * S 0 2
def cBeg (S P : Nat → Nat → Int32) (k q : Int32) : Int32 := if P 3 k.toNatClampNeg < cRdy S P k q then cRdy S P k q else P 3 k.toNatClampNeg
def cEnd (S P : Nat → Nat → Int32) (k q : Int32) : Int32 := cBeg S P k q + S 4 (P 0 k.toNatClampNeg).toNatClampNeg
def cMov (S P : Nat → Nat → Int32) (k q : Int32) : Int32 := if q = -1 then 0 else if cSq S P q k = 0 then 0 else r_Shop_moveBetween S (P 0 q.toNatClampNeg) (P 0 k.toNatClampNeg)
theorem castStep_form (S P : Nat → Nat → Int32) (k q : Int32) : r_Plan_castStep S P k q = tb [P 0, P 1, P 2, P 3, upd (P 4) k.toNatClampNeg (cBeg S P k q), upd (P 5) k.toNatClampNeg (cEnd S P k q), upd (P 6) k.toNatClampNeg (cChg S P k q), upd (P 7) k.toNatClampNeg (cTun S P k q), upd (P 8) (k + 1).toNatClampNeg (P 8 k.toNatClampNeg + cChg S P k q), upd (P 9) (k + 1).toNatClampNeg (P 9 k.toNatClampNeg + r_Shop_lateMinutes S (P 0 k.toNatClampNeg) (cEnd S P k q)), upd (P 10) (k + 1).toNatClampNeg (P 10 k.toNatClampNeg + cMov S P k q)] := by
  unfold r_Plan_castStep
  by_cases c1 : q = -1
  · have e1 : cChg S P k q = 0 := if_pos c1
    have e2 : cTun S P k q = 1 := if_pos c1
    have e3 : cRdy S P k q = 0 := if_pos c1
    have e4 : cMov S P k q = 0 := if_pos c1
    unfold cEnd cBeg
    rw [e1, e2, e3, e4]
    simp only [if_pos c1, pk_us]
  · by_cases c0 : r_Shop_moveBetween S (P 0 q.toNatClampNeg) (P 0 k.toNatClampNeg) = -1
    · have c3 : cSq S P q k = 0 := if_pos c0
      have e1 : cChg S P k q = 1 := (if_neg c1).trans (if_pos c3)
      have e2 : cTun S P k q = 1 := (if_neg c1).trans (if_pos c3)
      have e3 : cRdy S P k q = P 5 q.toNatClampNeg + 1 * S 0 2 := (if_neg c1).trans (by rw [e1])
      have e4 : cMov S P k q = 0 := (if_neg c1).trans (if_pos c3)
      unfold cEnd cBeg
      rw [e1, e2, e3, e4]
      simp only [if_neg c1, if_pos c0, pk_us]
    · by_cases c2 : r_Plan_goesOn S P q k = 0
      · have c3 : cSq S P q k = 0 := (if_neg c0).trans c2
        have e1 : cChg S P k q = 1 := (if_neg c1).trans (if_pos c3)
        have e2 : cTun S P k q = 1 := (if_neg c1).trans (if_pos c3)
        have e3 : cRdy S P k q = P 5 q.toNatClampNeg + 1 * S 0 2 := (if_neg c1).trans (by rw [e1])
        have e4 : cMov S P k q = 0 := (if_neg c1).trans (if_pos c3)
        unfold cEnd cBeg
        rw [e1, e2, e3, e4]
        simp only [if_neg c1, if_neg c0, if_pos c2, pk_us]
      · have c3 : ¬ cSq S P q k = 0 := fun z => c2 ((if_neg c0).symm.trans z)
        have e1 : cChg S P k q = 0 := (if_neg c1).trans (if_neg c3)
        have e2 : cTun S P k q = P 7 q.toNatClampNeg + 1 := (if_neg c1).trans (if_neg c3)
        have e3 : cRdy S P k q = P 5 q.toNatClampNeg + 0 * S 0 2 := (if_neg c1).trans (by rw [e1])
        have e4 : cMov S P k q = r_Shop_moveBetween S (P 0 q.toNatClampNeg) (P 0 k.toNatClampNeg) := (if_neg c1).trans (if_neg c3)
        unfold cEnd cBeg
        rw [e1, e2, e3, e4]
        simp only [if_neg c1, if_neg c0, if_neg c2, pk_us]
