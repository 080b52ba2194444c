/-! the mathematics: whether the heats can be ended, attempt by attempt -/
abbrev BP : Type := Int32 × MM
def cT (rc : Int32 → Int32 → MM → BP) (S : MM) (k q h c : Int32) (P : MM) : BP :=
  if (r_Plan_put S P k h c).1 = 0 then (0, (r_Plan_put S P k h c).2)
  else if (rc (k + 1) (q &&& ((1 <<< (h &&& 31)) ^^^ (-1))) (r_Plan_put S P k h c).2).1 = 0 then (0, (rc (k + 1) (q &&& ((1 <<< (h &&& 31)) ^^^ (-1))) (r_Plan_put S P k h c).2).2) else (1, (rc (k + 1) (q &&& ((1 <<< (h &&& 31)) ^^^ (-1))) (r_Plan_put S P k h c).2).2)
def cA (rc : Int32 → Int32 → MM → BP) (S : MM) (k q : Int32) (t : Nat) (s : BP) : BP :=
  if s.1 = 0 then (if (q >>> (nI (t / 2) &&& 31)) &&& 1 = 0 then s else cT rc S k q (nI (t / 2)) (nI (t % 2)) s.2) else s
def cF (rc : Int32 → Int32 → MM → BP) (S : MM) (k q : Int32) : Nat → Nat → BP → BP
  | 0, _, s => s
  | r + 1, t, s => cF rc S k q r (t + 1) (cA rc S k q t s)
theorem cF_id {rc : Int32 → Int32 → MM → BP} {S : MM} {k q : Int32} : ∀ (r t : Nat) (s : BP), ¬ s.1 = 0 → cF rc S k q r t s = s := by
  intro r
  induction r with
  | zero => intro t s _; rfl
  | succ r ih =>
    intro t s h
    rw [cF, cA, if_neg h]
    exact ih _ _ h
theorem cT_01 {rc : Int32 → Int32 → MM → BP} {S : MM} {k q h c : Int32} {P : MM} : (cT rc S k q h c P).1 = 0 ∨ (cT rc S k q h c P).1 = 1 := by
  unfold cT
  split
  · exact Or.inl rfl
  · split
    · exact Or.inl rfl
    · exact Or.inr rfl
theorem pair0 {s : BP} (h : s.1 = 0) : s = (0, s.2) := by rw [← h]
theorem pair1 {s : BP} (h : s.1 = 0 ∨ s.1 = 1) (h0 : ¬ s.1 = 0) : s = (1, s.2) := by
  rcases h with h | h
  · exact absurd h h0
  · rw [← h]
set_option maxHeartbeats 2000000 in
theorem ce_form {rc : Int32 → Int32 → MM → BP} {S : MM} {k q h : Int32} {n : Nat} {P : MM} (h1 : ¬ S 0 0 ≤ h) (h3 : ¬ (q >>> (h &&& 31)) &&& 1 = 0) :
    q_Srch_canEnd rc S k q (n + 1) h P = if (cT rc S k q h 0 P).1 = 0 then (if (cT rc S k q h 1 (cT rc S k q h 0 P).2).1 = 0 then q_Srch_canEnd rc S k q n (h + 1) (cT rc S k q h 1 (cT rc S k q h 0 P).2).2 else (1, (cT rc S k q h 1 (cT rc S k q h 0 P).2).2)) else (1, (cT rc S k q h 0 P).2) := by
  rw [q_Srch_canEnd, if_neg h1]
  try dsimp only
  rw [if_neg h3]
  have one : ∀ P1 : MM, (if (r_Plan_put S P1 k h 1).1 = 0 then q_Srch_canEnd rc S k q n (h + 1) (r_Plan_put S P1 k h 1).2 else if (rc (k + 1) (q &&& ((1 <<< (h &&& 31)) ^^^ (-1))) (r_Plan_put S P1 k h 1).2).1 = 0 then q_Srch_canEnd rc S k q n (h + 1) (rc (k + 1) (q &&& ((1 <<< (h &&& 31)) ^^^ (-1))) (r_Plan_put S P1 k h 1).2).2 else (1, (rc (k + 1) (q &&& ((1 <<< (h &&& 31)) ^^^ (-1))) (r_Plan_put S P1 k h 1).2).2)) = if (cT rc S k q h 1 P1).1 = 0 then q_Srch_canEnd rc S k q n (h + 1) (cT rc S k q h 1 P1).2 else (1, (cT rc S k q h 1 P1).2) := by
    intro P1
    unfold cT
    by_cases d1 : (r_Plan_put S P1 k h 1).1 = 0
    · simp only [if_pos d1, if_true]
    · simp only [if_neg d1]
      by_cases d2 : (rc (k + 1) (q &&& ((1 <<< (h &&& 31)) ^^^ (-1))) (r_Plan_put S P1 k h 1).2).1 = 0
      · simp only [if_pos d2, if_true]
      · simp only [if_neg d2]
        rw [if_neg (by decide)]
  by_cases c1 : (r_Plan_put S P k h 0).1 = 0
  · have e0 : cT rc S k q h 0 P = (0, (r_Plan_put S P k h 0).2) := if_pos c1
    rw [e0, if_pos c1, if_pos rfl]
    exact one _
  · rw [if_neg c1]
    by_cases c2 : (rc (k + 1) (q &&& ((1 <<< (h &&& 31)) ^^^ (-1))) (r_Plan_put S P k h 0).2).1 = 0
    · have e0 : cT rc S k q h 0 P = ((0 : Int32), (rc (k + 1) (q &&& ((1 <<< (h &&& 31)) ^^^ (-1))) (r_Plan_put S P k h 0).2).2) := (if_neg c1).trans (if_pos c2)
      rw [e0, if_pos c2, if_pos rfl]
      exact one _
    · have e0 : cT rc S k q h 0 P = ((1 : Int32), (rc (k + 1) (q &&& ((1 <<< (h &&& 31)) ^^^ (-1))) (r_Plan_put S P k h 0).2).2) := (if_neg c1).trans (if_neg c2)
      rw [e0, if_neg c2, if_neg (show ¬ (1 : Int32) = 0 by decide)]
theorem ce_fold {rc : Int32 → Int32 → MM → BP} {S : MM} {k q : Int32} {n : Nat} (hn : n ≤ 6) (hN : S 0 0 = nI n) : ∀ (r h f : Nat) (P : MM), h + r = n → r < f → q_Srch_canEnd rc S k q f (nI h) P = cF rc S k q (2 * r) (2 * h) (0, P) := by
  intro r
  induction r with
  | zero =>
    intro h f P h1 h2
    match f, h2 with
    | f + 1, _ =>
      rw [q_Srch_canEnd, hN, if_pos (nI_le (by omega) (by omega))]
      rfl
  | succ r ih =>
    intro h f P h1 h2
    match f, h2 with
    | f + 1, h2 =>
      have hle : ¬ S 0 0 ≤ nI h := by rw [hN]; exact nI_ge (by omega) (by omega)
      have d0 : 2 * h / 2 = h := by omega
      have d1 : (2 * h + 1) / 2 = h := by omega
      have m0 : 2 * h % 2 = 0 := by omega
      have m1 : (2 * h + 1) % 2 = 1 := by omega
      rw [show 2 * (r + 1) = 2 * r + 1 + 1 from by omega, cF, cF, show 2 * h + 1 + 1 = 2 * (h + 1) from by omega]
      unfold cA
      rw [d0, d1, m0, m1, if_pos rfl]
      by_cases c2 : (q >>> (nI h &&& 31)) &&& 1 = 0
      · rw [if_pos c2, if_pos rfl, if_pos c2, q_Srch_canEnd, if_neg hle]
        try dsimp only
        rw [if_pos c2, nI_1]
        exact ih (h + 1) f P (by omega) (by omega)
      · rw [if_neg c2, if_neg c2, ce_form hle c2]
        have t0 := cT_01 (rc := rc) (S := S) (k := k) (q := q) (h := nI h) (c := nI 0) (P := P)
        have t1 := cT_01 (rc := rc) (S := S) (k := k) (q := q) (h := nI h) (c := nI 1) (P := (cT rc S k q (nI h) (nI 0) P).2)
        show (if (cT rc S k q (nI h) (nI 0) P).1 = 0 then (if (cT rc S k q (nI h) (nI 1) (cT rc S k q (nI h) (nI 0) P).2).1 = 0 then q_Srch_canEnd rc S k q f (nI h + 1) (cT rc S k q (nI h) (nI 1) (cT rc S k q (nI h) (nI 0) P).2).2 else (1, (cT rc S k q (nI h) (nI 1) (cT rc S k q (nI h) (nI 0) P).2).2)) else (1, (cT rc S k q (nI h) (nI 0) P).2)) = _
        by_cases c3 : (cT rc S k q (nI h) (nI 0) P).1 = 0
        · rw [if_pos c3, if_pos c3]
          by_cases c4 : (cT rc S k q (nI h) (nI 1) (cT rc S k q (nI h) (nI 0) P).2).1 = 0
          · rw [if_pos c4, nI_1, ih (h + 1) f _ (by omega) (by omega), ← pair0 c4]
          · rw [if_neg c4, cF_id _ _ _ c4, ← pair1 t1 c4]
        · rw [if_neg c3, if_neg c3, cF_id _ _ _ c3, ← pair1 t0 c3]
