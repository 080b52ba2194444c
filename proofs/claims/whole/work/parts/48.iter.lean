/-! the mathematics: the model's search, one round of its loop -/
/-- now[k] set -/
def s9 (M : MM) (k : Nat) (x : Int32) : MM := tb [M 0, M 1, M 2, M 3, M 4, M 5, M 6, M 7, M 8, upd (M 9) k x, M 10, M 11, M 12, M 13]
/-- a node more -/
def nod (M : MM) (x : Int32) : MM := tb [tv [M 0 0, M 0 1, M 0 2, M 0 3, M 0 4, M 0 5, M 0 6, M 0 7, M 0 8, M 0 9, M 0 10, M 0 11 + x, M 0 12, M 0 13, M 0 14, M 0 15], M 1, M 2, M 3, M 4, M 5, M 6, M 7, M 8, M 9, M 10, M 11, M 12, M 13]
def npr (M : MM) : MM := tb [tv [M 0 0, M 0 1, M 0 2, M 0 3, M 0 4, M 0 5, M 0 6, M 0 7, M 0 8, M 0 9, 0, M 0 11, M 0 12, M 0 13, M 0 14, M 0 15], M 1, M 2, M 3, M 4, M 5, M 6, M 7, M 8, M 9, M 10, M 11, M 12, M 13]
def ovr (h j : Int32) (M : MM) : Int32 := if h = 0 then 0 else if r_Mod_costNow M < j then 0 else 1
/-- what a round does with a table T in which step k has been worked out and is good -/
def aft (q v g i : Int32) (f : Nat) (k h j : Int32) (T : MM) : Option (Int32 × MM) :=
  if g = 0 then (if T 0 11 = v then some (h, npr T) else if ovr h j (nod T 1) = 0 then (if k + 1 = i then q_Mod_search q v g i f k 1 (r_Mod_costNow (nod T 1)) (b_Mod_search_221 i 8 0 (nod T 1)) else q_Mod_search q v g i f (k + 1) h j (s9 (nod T 1) (k + 1).toNatClampNeg (-1))) else q_Mod_search q v g i f k h j (nod T 1))
  else if ovr h j (nod T 0) = 0 then (if k + 1 = i then some (1, nod T 0) else q_Mod_search q v g i f (k + 1) h j (s9 (nod T 0) (k + 1).toNatClampNeg (-1))) else q_Mod_search q v g i f k h j (nod T 0)
theorem iter (q v g i : Int32) (f : Nat) (k h j : Int32) (M : MM) (hk : ¬ k < 0) : q_Mod_search q v g i (f + 1) k h j M =
    if M 9 k.toNatClampNeg + 1 = 2 * M 0 1 then q_Mod_search q v g i f (k + (-1)) h j (s9 M k.toNatClampNeg (M 9 k.toNatClampNeg + 1))
    else if (q >>> ((M 9 k.toNatClampNeg + 1) / 2 &&& 31)) &&& 1 = 1 then
      (if r_Mod_isUsed (s9 M k.toNatClampNeg (M 9 k.toNatClampNeg + 1)) k = 0 then
        (if (r_Mod_workOut (s9 M k.toNatClampNeg (M 9 k.toNatClampNeg + 1)) (k + 1)).1 = 0 then q_Mod_search q v g i f k h j (r_Mod_workOut (s9 M k.toNatClampNeg (M 9 k.toNatClampNeg + 1)) (k + 1)).2
        else aft q v g i f k h j (r_Mod_workOut (s9 M k.toNatClampNeg (M 9 k.toNatClampNeg + 1)) (k + 1)).2)
      else q_Mod_search q v g i f k h j (s9 M k.toNatClampNeg (M 9 k.toNatClampNeg + 1)))
    else q_Mod_search q v g i f k h j (s9 M k.toNatClampNeg (M 9 k.toNatClampNeg + 1)) := by
  rw [q_Mod_search, if_neg hk]
  have e9 : upd (M 9) k.toNatClampNeg (M 9 k.toNatClampNeg + 1) k.toNatClampNeg = M 9 k.toNatClampNeg + 1 := pk_us
  show (if upd (M 9) k.toNatClampNeg (M 9 k.toNatClampNeg + 1) k.toNatClampNeg = 2 * M 0 1 then _ else _) = _
  rw [e9]
  split
  · rfl
  · show (if (q >>> (upd (M 9) k.toNatClampNeg (M 9 k.toNatClampNeg + 1) k.toNatClampNeg / 2 &&& 31)) &&& 1 = 1 then _ else _) = _
    rw [e9]
    split
    · show (if r_Mod_isUsed (s9 M k.toNatClampNeg (M 9 k.toNatClampNeg + 1)) k = 0 then _ else _) = _
      split
      · show (if (r_Mod_workOut (s9 M k.toNatClampNeg (M 9 k.toNatClampNeg + 1)) (k + 1)).1 = 0 then _ else _) = _
        split
        · rfl
        · rfl
      · rfl
    · rfl
