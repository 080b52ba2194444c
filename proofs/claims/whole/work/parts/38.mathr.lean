/-! the mathematics: a plan behind one more step, row by row -/
/-- the caster's step ahead of step k, as put finds it -/
def plq (S P : Nat → Nat → Int32) (k h q : Int32) : Int32 := r_Plan_latestOn S (pl1 S P k h q) q k
theorem pl2_0 (S P : Nat → Nat → Int32) (k h q : Int32) : pl2 S P k h q 0 = upd (P 0) k.toNatClampNeg h := by
  unfold pl2; rw [castStep_form]; rfl
theorem pl2_1 (S P : Nat → Nat → Int32) (k h q : Int32) : pl2 S P k h q 1 = upd (P 1) k.toNatClampNeg q := by
  unfold pl2; rw [castStep_form]; rfl
theorem pl2_2 (S P : Nat → Nat → Int32) (k h q : Int32) : pl2 S P k h q 2 = upd (P 2) k.toNatClampNeg (mBeg P k) := by
  unfold pl2; rw [castStep_form]; rfl
theorem pl2_3 (S P : Nat → Nat → Int32) (k h q : Int32) : pl2 S P k h q 3 = upd (P 3) k.toNatClampNeg (mBeg P k + S 3 h.toNatClampNeg) := by
  unfold pl2; rw [castStep_form]; rfl
theorem pl2_4 (S P : Nat → Nat → Int32) (k h q : Int32) : pl2 S P k h q 4 = upd (P 4) k.toNatClampNeg (cBeg S (pl1 S P k h q) k (plq S P k h q)) := by
  unfold pl2; rw [castStep_form]; rfl
theorem pl2_5 (S P : Nat → Nat → Int32) (k h q : Int32) : pl2 S P k h q 5 = upd (P 5) k.toNatClampNeg (cEnd S (pl1 S P k h q) k (plq S P k h q)) := by
  unfold pl2; rw [castStep_form]; rfl
theorem pl2_6 (S P : Nat → Nat → Int32) (k h q : Int32) : pl2 S P k h q 6 = upd (P 6) k.toNatClampNeg (cChg S (pl1 S P k h q) k (plq S P k h q)) := by
  unfold pl2; rw [castStep_form]; rfl
theorem pl2_7 (S P : Nat → Nat → Int32) (k h q : Int32) : pl2 S P k h q 7 = upd (P 7) k.toNatClampNeg (cTun S (pl1 S P k h q) k (plq S P k h q)) := by
  unfold pl2; rw [castStep_form]; rfl
theorem pl2_8 (S P : Nat → Nat → Int32) (k h q : Int32) : pl2 S P k h q 8 = upd (P 8) (k + 1).toNatClampNeg (P 8 k.toNatClampNeg + cChg S (pl1 S P k h q) k (plq S P k h q)) := by
  unfold pl2; rw [castStep_form]; rfl
theorem pl2_9 (S P : Nat → Nat → Int32) (k h q : Int32) : pl2 S P k h q 9 = upd (P 9) (k + 1).toNatClampNeg (P 9 k.toNatClampNeg + r_Shop_lateMinutes S ((pl1 S P k h q) 0 k.toNatClampNeg) (cEnd S (pl1 S P k h q) k (plq S P k h q))) := by
  unfold pl2; rw [castStep_form]; rfl
theorem pl2_10 (S P : Nat → Nat → Int32) (k h q : Int32) : pl2 S P k h q 10 = upd (P 10) (k + 1).toNatClampNeg (P 10 k.toNatClampNeg + cMov S (pl1 S P k h q) k (plq S P k h q)) := by
  unfold pl2; rw [castStep_form]; rfl
theorem pl1_0 (S P : Nat → Nat → Int32) (k h q : Int32) : pl1 S P k h q 0 k.toNatClampNeg = h := pk_us
theorem pl1_3 (S P : Nat → Nat → Int32) (k h q : Int32) : pl1 S P k h q 3 k.toNatClampNeg = mBeg P k + S 3 h.toNatClampNeg := pk_us
theorem plq_eq (S P : Nat → Nat → Int32) (h q : Int32) {k : Nat} (hk : k ≤ 6) : plq S P (nI k) h q = lat (P 1) q k := by
  unfold plq
  rw [lat_r S _ q hk]
  refine lat_c q k (fun i hi => ?_)
  show upd (P 1) (nI k).toNatClampNeg q i = P 1 i
  rw [nI_clamp (by omega)]
  exact pk_un (by omega)
/-- what put answers for a step whose heat and place are right -/
theorem put_ok {S P : Nat → Nat → Int32} {k h q : Int32} (c1 : ¬ r_Ord_within k 0 5 = 0) (c2 : ¬ r_Ord_within h 0 (S 0 0 - 1) = 0) : r_Plan_put S P k h q = if r_Shop_mayCast S h q = 0 then (0, P) else (if S 0 1 < cBeg S (pl1 S P k h q) k (plq S P k h q) - (mBeg P k + S 3 h.toNatClampNeg) then 0 else 1, pl2 S P k h q) := by
  rw [put_form, if_neg c1, if_neg c2, pl2_4, pl2_3, pk_us, pk_us]
