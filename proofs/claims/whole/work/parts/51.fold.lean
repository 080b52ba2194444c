/-! the mathematics: the class' searches, attempt by attempt -/
abbrev XP : Type := (Nat → Int32) × MM
/-- heat h on caster c as step k -/
def bT (rc : Int32 → Int32 → Int32 → (Nat → Int32) → MM → XP) (S : MM) (k q v h c : Int32) (s : XP) : XP :=
  if (r_Plan_put S s.2 k h c).1 = 0 then (s.1, (r_Plan_put S s.2 k h c).2)
  else if (r_Srch_isWorthMore S (r_Plan_put S s.2 k h c).2 s.1 (k + 1)).1 = 0 then ((r_Srch_isWorthMore S (r_Plan_put S s.2 k h c).2 s.1 (k + 1)).2, (r_Plan_put S s.2 k h c).2)
  else rc (k + 1) (q &&& ((1 <<< (h &&& 31)) ^^^ (-1))) (r_Ord_withStep v k h c) (r_Srch_isWorthMore S (r_Plan_put S s.2 k h c).2 s.1 (k + 1)).2 (r_Plan_put S s.2 k h c).2
/-- the attempt of the code t -/
def bA (rc : Int32 → Int32 → Int32 → (Nat → Int32) → MM → XP) (S : MM) (k q v : Int32) (t : Nat) (s : XP) : XP :=
  if s.1 2 = 0 then (if (q >>> (nI (t / 2) &&& 31)) &&& 1 = 0 then s else bT rc S k q v (nI (t / 2)) (nI (t % 2)) s) else s
def bF (rc : Int32 → Int32 → Int32 → (Nat → Int32) → MM → XP) (S : MM) (k q v : Int32) : Nat → Nat → XP → XP
  | 0, _, s => s
  | r + 1, t, s => bF rc S k q v r (t + 1) (bA rc S k q v t s)
theorem bF_id {rc : Int32 → Int32 → Int32 → (Nat → Int32) → MM → XP} {S : MM} {k q v : Int32} : ∀ (r t : Nat) (s : XP), ¬ s.1 2 = 0 → bF rc S k q v r t s = s := by
  intro r
  induction r with
  | zero => intro t s _; rfl
  | succ r ih =>
    intro t s h
    rw [bF, bA, if_neg h]
    exact ih _ _ h
theorem iw_2 {S P : MM} {x : Nat → Int32} {k : Int32} (h : ¬ (r_Srch_isWorthMore S P x k).1 = 0) : (r_Srch_isWorthMore S P x k).2 2 = x 2 := by
  unfold r_Srch_isWorthMore at h ⊢
  by_cases c1 : x 1 < x 0
  · simp only [if_pos c1] at h ⊢
    by_cases c2 : x 3 = 0
    · simp only [if_pos c2]; rfl
    · simp only [if_neg c2] at h ⊢
      by_cases c3 : x 5 ≤ r_Plan_costOf S P k
      · simp only [if_pos c3] at h; exact absurd trivial h
      · simp only [if_neg c3]; rfl
  · simp only [if_neg c1] at h; exact absurd trivial h
set_option maxHeartbeats 2000000 in
theorem br_form {rc : Int32 → Int32 → Int32 → (Nat → Int32) → MM → XP} {S : MM} {k q v h : Int32} {n : Nat} {x : Nat → Int32} {P : MM} (h1 : ¬ S 0 0 ≤ h) (h2 : x 2 = 0) (h3 : ¬ (q >>> (h &&& 31)) &&& 1 = 0) :
    q_Srch_branch rc S k q v (n + 1) h x P = q_Srch_branch rc S k q v n (h + 1) (if (bT rc S k q v h 0 (x, P)).1 2 = 0 then bT rc S k q v h 1 (bT rc S k q v h 0 (x, P)) else bT rc S k q v h 0 (x, P)).1 (if (bT rc S k q v h 0 (x, P)).1 2 = 0 then bT rc S k q v h 1 (bT rc S k q v h 0 (x, P)) else bT rc S k q v h 0 (x, P)).2 := by
  rw [q_Srch_branch, if_neg h1, if_pos h2]
  try dsimp only
  rw [if_neg h3]
  by_cases c1 : (r_Plan_put S P k h 0).1 = 0
  · have e0 : bT rc S k q v h 0 (x, P) = (x, (r_Plan_put S P k h 0).2) := if_pos c1
    rw [e0, if_pos c1, if_pos h2]
    by_cases c2 : (r_Plan_put S (r_Plan_put S P k h 0).2 k h 1).1 = 0
    · have e1 : bT rc S k q v h 1 (x, (r_Plan_put S P k h 0).2) = (x, (r_Plan_put S (r_Plan_put S P k h 0).2 k h 1).2) := if_pos c2
      rw [e1, if_pos c2]
    · by_cases c3 : (r_Srch_isWorthMore S (r_Plan_put S (r_Plan_put S P k h 0).2 k h 1).2 x (k + 1)).1 = 0
      · have e1 : bT rc S k q v h 1 (x, (r_Plan_put S P k h 0).2) = ((r_Srch_isWorthMore S (r_Plan_put S (r_Plan_put S P k h 0).2 k h 1).2 x (k + 1)).2, (r_Plan_put S (r_Plan_put S P k h 0).2 k h 1).2) := (if_neg c2).trans (if_pos c3)
        rw [e1, if_neg c2, if_pos c3]
      · have e1 : bT rc S k q v h 1 (x, (r_Plan_put S P k h 0).2) = rc (k + 1) (q &&& ((1 <<< (h &&& 31)) ^^^ (-1))) (r_Ord_withStep v k h 1) (r_Srch_isWorthMore S (r_Plan_put S (r_Plan_put S P k h 0).2 k h 1).2 x (k + 1)).2 (r_Plan_put S (r_Plan_put S P k h 0).2 k h 1).2 := (if_neg c2).trans (if_neg c3)
        rw [e1, if_neg c2, if_neg c3]
  · rw [if_neg c1]
    by_cases c2 : (r_Srch_isWorthMore S (r_Plan_put S P k h 0).2 x (k + 1)).1 = 0
    · have e0 : bT rc S k q v h 0 (x, P) = ((r_Srch_isWorthMore S (r_Plan_put S P k h 0).2 x (k + 1)).2, (r_Plan_put S P k h 0).2) := (if_neg c1).trans (if_pos c2)
      rw [e0, if_pos c2]
      generalize (r_Srch_isWorthMore S (r_Plan_put S P k h 0).2 x (k + 1)).2 = x1
      generalize (r_Plan_put S P k h 0).2 = P1
      by_cases c3 : x1 2 = 0
      · rw [if_pos c3, if_pos c3]
        by_cases c4 : (r_Plan_put S P1 k h 1).1 = 0
        · have e1 : bT rc S k q v h 1 (x1, P1) = (x1, (r_Plan_put S P1 k h 1).2) := if_pos c4
          rw [e1, if_pos c4]
        · by_cases c5 : (r_Srch_isWorthMore S (r_Plan_put S P1 k h 1).2 x1 (k + 1)).1 = 0
          · have e1 : bT rc S k q v h 1 (x1, P1) = ((r_Srch_isWorthMore S (r_Plan_put S P1 k h 1).2 x1 (k + 1)).2, (r_Plan_put S P1 k h 1).2) := (if_neg c4).trans (if_pos c5)
            rw [e1, if_neg c4, if_pos c5]
          · have e1 : bT rc S k q v h 1 (x1, P1) = rc (k + 1) (q &&& ((1 <<< (h &&& 31)) ^^^ (-1))) (r_Ord_withStep v k h 1) (r_Srch_isWorthMore S (r_Plan_put S P1 k h 1).2 x1 (k + 1)).2 (r_Plan_put S P1 k h 1).2 := (if_neg c4).trans (if_neg c5)
            rw [e1, if_neg c4, if_neg c5]
      · rw [if_neg c3, if_neg c3]
    · have e0 : bT rc S k q v h 0 (x, P) = rc (k + 1) (q &&& ((1 <<< (h &&& 31)) ^^^ (-1))) (r_Ord_withStep v k h 0) (r_Srch_isWorthMore S (r_Plan_put S P k h 0).2 x (k + 1)).2 (r_Plan_put S P k h 0).2 := (if_neg c1).trans (if_neg c2)
      rw [e0, if_neg c2]
      generalize rc (k + 1) (q &&& ((1 <<< (h &&& 31)) ^^^ (-1))) (r_Ord_withStep v k h 0) (r_Srch_isWorthMore S (r_Plan_put S P k h 0).2 x (k + 1)).2 (r_Plan_put S P k h 0).2 = s1
      obtain ⟨x1, P1⟩ := s1
      by_cases c3 : x1 2 = 0
      · rw [if_pos c3, if_pos c3]
        by_cases c4 : (r_Plan_put S P1 k h 1).1 = 0
        · have e1 : bT rc S k q v h 1 (x1, P1) = (x1, (r_Plan_put S P1 k h 1).2) := if_pos c4
          rw [e1, if_pos c4]
        · by_cases c5 : (r_Srch_isWorthMore S (r_Plan_put S P1 k h 1).2 x1 (k + 1)).1 = 0
          · have e1 : bT rc S k q v h 1 (x1, P1) = ((r_Srch_isWorthMore S (r_Plan_put S P1 k h 1).2 x1 (k + 1)).2, (r_Plan_put S P1 k h 1).2) := (if_neg c4).trans (if_pos c5)
            rw [e1, if_neg c4, if_pos c5]
          · have e1 : bT rc S k q v h 1 (x1, P1) = rc (k + 1) (q &&& ((1 <<< (h &&& 31)) ^^^ (-1))) (r_Ord_withStep v k h 1) (r_Srch_isWorthMore S (r_Plan_put S P1 k h 1).2 x1 (k + 1)).2 (r_Plan_put S P1 k h 1).2 := (if_neg c4).trans (if_neg c5)
            rw [e1, if_neg c4, if_neg c5]
      · rw [if_neg c3, if_neg c3]
theorem br_fold {rc : Int32 → Int32 → Int32 → (Nat → Int32) → MM → XP} {S : MM} {k q v : Int32} {n : Nat} (hn : n ≤ 6) (hN : S 0 0 = nI n) : ∀ (r h f : Nat) (x : Nat → Int32) (P : MM), h + r = n → r < f → q_Srch_branch rc S k q v f (nI h) x P = bF rc S k q v (2 * r) (2 * h) (x, P) := by
  intro r
  induction r with
  | zero =>
    intro h f x P h1 h2
    match f, h2 with
    | f + 1, _ =>
      rw [q_Srch_branch, hN, if_pos (nI_le (by omega) (by omega))]
      rfl
  | succ r ih =>
    intro h f x P h1 h2
    match f, h2 with
    | f + 1, h2 =>
      have hle : ¬ S 0 0 ≤ nI h := by rw [hN]; exact nI_ge (by omega) (by omega)
      by_cases c1 : x 2 = 0
      · have d0 : 2 * h / 2 = h := by omega
        have d1 : (2 * h + 1) / 2 = h := by omega
        have m0 : 2 * h % 2 = 0 := by omega
        have m1 : (2 * h + 1) % 2 = 1 := by omega
        rw [show 2 * (r + 1) = 2 * r + 1 + 1 from by omega, bF, bF, show 2 * h + 1 + 1 = 2 * (h + 1) from by omega]
        unfold bA
        rw [d0, d1, m0, m1, if_pos c1]
        by_cases c2 : (q >>> (nI h &&& 31)) &&& 1 = 0
        · rw [if_pos c2, if_pos c1, if_pos c2, q_Srch_branch, if_neg hle, if_pos c1]
          try dsimp only
          rw [if_pos c2, nI_1]
          exact ih (h + 1) f x P (by omega) (by omega)
        · rw [if_neg c2, if_neg c2, br_form hle c1 c2, nI_1, ih (h + 1) f _ _ (by omega) (by omega)]
          rfl
      · rw [bF_id _ _ _ c1, q_Srch_branch, if_neg hle, if_neg c1]
