/-! the mathematics: the caster's step before -/
/-- the greatest place below n at which f is c, or -1 -/
def lat (f : Nat → Int32) (c : Int32) : Nat → Int32
  | 0 => -1
  | n + 1 => if f n = c then nI n else lat f c n
theorem lat_q (S P : Nat → Nat → Int32) (q k : Int32) : ∀ (i n : Nat), i < n → i ≤ 6 → q_Plan_latestOn S P q k n (nI i - 1) = lat (P 1) q i := by
  intro i
  induction i with
  | zero =>
    intro n hn _
    match n, hn with
    | n + 1, _ =>
      rw [q_Plan_latestOn, if_pos (by decide)]
      rfl
  | succ i ih =>
    intro n hn hi
    match n, hn with
    | n + 1, hn =>
      rw [nI_pred, q_Plan_latestOn, if_neg (nI_pos (by omega))]
      rw [nI_clamp (by omega)]
      show (if P 1 i = q then nI i else q_Plan_latestOn S P q k n (nI i + (-1))) = lat (P 1) q (i + 1)
      rw [show nI i + (-1) = nI i - 1 from (Int32.sub_eq_add_neg _ _).symm, ih n (by omega) (by omega)]
      rfl
theorem lat_r (S P : Nat → Nat → Int32) (q : Int32) {i : Nat} (h : i ≤ 6) : r_Plan_latestOn S P q (nI i) = lat (P 1) q i := lat_q S P q (nI i) i 8 (by omega) h
/-- how many heats the tundish of the caster c has cast behind the steps below n: ch the changes -/
def cnt (f ch : Nat → Int32) (c : Int32) : Nat → Int32
  | 0 => 0
  | n + 1 => if f n = c then (if ch n = 0 then (if 0 ≤ lat f c n then cnt f ch c n + 1 else 1) else 1) else cnt f ch c n
/-- the caster that a code names -/
def cas (M : Nat → Nat → Int32) (i : Nat) : Int32 := M 9 i - M 9 i / 2 * 2
theorem lat_b (M : Nat → Nat → Int32) {k : Nat} (hk : k < 6) : ∀ (r i n : Nat), i + r = k → r < n → b_Mod_workOut_66 M (nI k) n (nI i) (lat (cas M) (cas M k) i) (cnt (cas M) (M 13) (cas M k) i) = (lat (cas M) (cas M k) k, cnt (cas M) (M 13) (cas M k) k) := by
  intro r
  induction r with
  | zero =>
    intro i n hi hn
    match n, hn with
    | n + 1, _ =>
      have e : i = k := by omega
      subst e
      rw [b_Mod_workOut_66, if_pos (nI_le (Nat.le_refl _) (by omega))]
  | succ r ih =>
    intro i n hi hn
    match n, hn with
    | n + 1, hn =>
      have hlt : i < k := by omega
      rw [b_Mod_workOut_66, if_neg (nI_ge hlt (by omega)), nI_clamp (by omega), nI_clamp (by omega)]
      have h2 := ih (i + 1) n (by omega) (by omega)
      by_cases c1 : cas M i = cas M k
      · have e1 : lat (cas M) (cas M k) (i + 1) = nI i := if_pos c1
        have e2 : cnt (cas M) (M 13) (cas M k) (i + 1) = if M 13 i = 0 then (if 0 ≤ lat (cas M) (cas M k) i then cnt (cas M) (M 13) (cas M k) i + 1 else 1) else 1 := if_pos c1
        rw [e1, e2, ← nI_1] at h2
        refine Eq.trans ?_ h2
        exact if_pos c1
      · have e1 : lat (cas M) (cas M k) (i + 1) = lat (cas M) (cas M k) i := if_neg c1
        have e2 : cnt (cas M) (M 13) (cas M k) (i + 1) = cnt (cas M) (M 13) (cas M k) i := if_neg c1
        rw [e1, e2, ← nI_1] at h2
        refine Eq.trans ?_ h2
        exact if_neg c1
theorem wL_eq (M : Nat → Nat → Int32) {k : Nat} (hk : k < 6) : wL M (nI k) = (lat (cas M) (cas M k) k, cnt (cas M) (M 13) (cas M k) k) := lat_b M hk k 0 8 (by omega) (by omega)
theorem lat_c {f g : Nat → Int32} (c : Int32) : ∀ n : Nat, (∀ i, i < n → f i = g i) → lat f c n = lat g c n := by
  intro n
  induction n with
  | zero => intro _; rfl
  | succ n ih =>
    intro h
    unfold lat
    rw [h n (by omega), ih (fun i hi => h i (by omega))]
theorem cnt_c {f g u v : Nat → Int32} (c : Int32) : ∀ n : Nat, (∀ i, i < n → f i = g i ∧ u i = v i) → cnt f u c n = cnt g v c n := by
  intro n
  induction n with
  | zero => intro _; rfl
  | succ n ih =>
    intro h
    unfold cnt
    rw [(h n (by omega)).1, (h n (by omega)).2, ih (fun i hi => h i (by omega)), lat_c c n (fun i hi => (h i (by omega)).1)]
theorem lat_v {f : Nat → Int32} (c : Int32) : ∀ n : Nat, lat f c n = -1 ∨ ∃ i, i < n ∧ lat f c n = nI i ∧ f i = c := by
  intro n
  induction n with
  | zero => exact Or.inl rfl
  | succ n ih =>
    unfold lat
    by_cases h : f n = c
    · rw [if_pos h]; exact Or.inr ⟨n, by omega, rfl, h⟩
    · rw [if_neg h]
      rcases ih with h1 | ⟨i, a, b, d⟩
      · exact Or.inl h1
      · exact Or.inr ⟨i, by omega, b, d⟩
theorem cnt_t {f u t : Nat → Int32} (c : Int32) : ∀ n : Nat, n ≤ 6 → (∀ i, i < n → t i = if lat f (f i) i = -1 then 1 else if u i = 0 then t (lat f (f i) i).toNatClampNeg + 1 else 1) → cnt f u c n = if lat f c n = -1 then 0 else t (lat f c n).toNatClampNeg := by
  intro n
  induction n with
  | zero => intro _ _; rfl
  | succ n ih =>
    intro hn h
    have h1 := ih (by omega) (fun i hi => h i (by omega))
    by_cases hc : f n = c
    · have e1 : lat f c (n + 1) = nI n := if_pos hc
      have e2 : cnt f u c (n + 1) = if u n = 0 then (if 0 ≤ lat f c n then cnt f u c n + 1 else 1) else 1 := if_pos hc
      have hne : ¬ nI n = -1 := fun q => by
        have := congrArg Int32.toInt q
        rw [nI_toInt (by omega)] at this
        have e : (-1 : Int32).toInt = -1 := by decide
        omega
      rw [e1, e2, if_neg hne, nI_clamp (by omega), h n (by omega), hc, h1]
      rcases lat_v (f := f) c n with q | ⟨i, a, b, _⟩
      · rw [if_pos q, q]
        by_cases hu : u n = 0
        · rw [if_pos hu, if_neg (by decide), if_pos rfl]
        · rw [if_neg hu, if_pos rfl]
      · have hq : ¬ lat f c n = -1 := by
          rw [b]
          intro q
          have := congrArg Int32.toInt q
          rw [nI_toInt (by omega)] at this
          have e : (-1 : Int32).toInt = -1 := by decide
          omega
        rw [if_neg hq, if_neg hq]
        by_cases hu : u n = 0
        · rw [if_pos hu, if_pos hu, if_pos (by rw [b]; exact nI_pos' (by omega))]
        · rw [if_neg hu, if_neg hu]
    · have e1 : lat f c (n + 1) = lat f c n := if_neg hc
      have e2 : cnt f u c (n + 1) = cnt f u c n := if_neg hc
      rw [e1, e2, h1]
