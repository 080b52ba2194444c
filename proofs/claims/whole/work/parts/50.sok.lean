/-! the mathematics: the search ends, whatever it is asked (SOK) -/
theorem and1 (x : Int32) : x &&& 1 = 0 ∨ x &&& 1 = 1 := by
  obtain ⟨j, hj, e⟩ := pk_andE x (m := 1) 1 rfl
  have : j = 0 ∨ j = 1 := by omega
  rcases this with rfl | rfl
  · exact Or.inl e
  · exact Or.inr e
/-- how many of the heats below n are in the set q -/
def cb (q : Int32) : Nat → Nat
  | 0 => 0
  | n + 1 => cb q n + (if (q >>> (nI n &&& 31)) &&& 1 = 1 then 1 else 0)
theorem cb_le (q : Int32) : ∀ n, cb q n ≤ n := by
  intro n
  induction n with
  | zero => exact Nat.le_refl _
  | succ n ih => rw [cb]; split <;> omega
theorem cb_go (M : MM) (q : Int32) {n : Nat} (hn : n ≤ 6) (hN : M 0 1 = nI n) : ∀ (r i f : Nat), i + r = n → r < f → b_Mod_search_6 M q f (nI i) (nI (cb q i)) = nI (cb q n) := by
  intro r
  induction r with
  | zero =>
    intro i f h1 h2
    match f, h2 with
    | f + 1, _ =>
      have e : i = n := by omega
      subst e
      rw [b_Mod_search_6, hN, if_pos (nI_le (Nat.le_refl _) (by omega))]
  | succ r ih =>
    intro i f h1 h2
    match f, h2 with
    | f + 1, h2 =>
      rw [b_Mod_search_6, hN, if_neg (nI_ge (by omega) (by omega))]
      try dsimp only
      rw [nI_1]
      have e : nI (cb q i) + ((q >>> (nI i &&& 31)) &&& 1) = nI (cb q (i + 1)) := by
        rw [cb]
        rcases and1 (q >>> (nI i &&& 31)) with h | h
        · rw [h, if_neg (by decide)]; exact Int32.add_zero _
        · rw [h, if_pos rfl]; exact nI_1 _
      rw [e]
      exact ih (i + 1) f (by omega) (by omega)
theorem cb_all (M : MM) (q : Int32) {n : Nat} (hn : n ≤ 6) (hN : M 0 1 = nI n) : b_Mod_search_6 M q 8 0 0 = nI (cb q n) := cb_go M q hn hN n 0 8 (by omega) (by omega)
theorem cb_full {n : Nat} (hn : n ≤ 6) : cb ((1 <<< (nI n &&& 31)) - 1) n = n := by
  have : n = 0 ∨ n = 1 ∨ n = 2 ∨ n = 3 ∨ n = 4 ∨ n = 5 ∨ n = 6 := by omega
  rcases this with rfl | rfl | rfl | rfl | rfl | rfl | rfl <;> decide +kernel
theorem Bd_mono : ∀ {a b : Nat}, a ≤ b → Bd a ≤ Bd b := by
  intro a b h
  induction b with
  | zero =>
    have : a = 0 := by omega
    rw [this]; exact Nat.le_refl _
  | succ b ih =>
    by_cases hb : a = b + 1
    · rw [hb]; exact Nat.le_refl _
    · have := ih (by omega)
      rw [Bd]; omega
/-- rounds enough for every search -/
def sN : Nat := Bd 6 + 1
theorem sr_out {q v g : Int32} {n al : Nat} (hn : n ≤ 6) (hal : al ≤ n) (h1 : 1 ≤ al) {M : MM} (hN : M 0 1 = nI n) : ∃ res : Int32 × MM, q_Mod_search q v g (nI al) sN 0 0 0 (s9 M 0 (-1)) = some res ∧ (res.1 = 0 ∨ res.1 = 1) ∧ res.2 0 1 = nI n ∧ res.2 1 = M 1 ∧ (¬ res.1 = 0 → g = 0 → ∀ p, p < al → vp_in (res.2 8 p) 12) := by
  obtain ⟨d, hd⟩ : ∃ d, 0 + (d + 1) = al := ⟨al - 1, by omega⟩
  have hO := term (q := q) (v := v) (g := g) hn hal d 0 hd (2 * n) 0 (by omega) 0 0 (s9 M 0 (-1)) hN (show upd (M 9) 0 (-1) 0 + 1 = nI 0 by rw [pk_us]; rfl) (fun p hp => absurd hp (by omega)) (Or.inl rfl) (fun h => absurd rfl h)
  have hb : (2 * n + 1) * (2 + Bd d) ≤ Bd 6 := Nat.le_trans (Nat.mul_le_mul_right _ (by omega : 2 * n + 1 ≤ 13)) (Bd_mono (a := d + 1) (b := 6) (by omega))
  rcases hO with ⟨s, hs, h', j', M', a1, a2, a3, a4, a5, a6⟩ | ⟨s, hs, res, a1, a2, a3, a4, a5⟩
  · obtain ⟨f, hf⟩ : ∃ f, f + 1 + s = sN := ⟨Bd 6 - s, by unfold sN; omega⟩
    refine ⟨(h', M'), ?_, a4, a1, a2, fun h _ => a5 h⟩
    have := a6 (f + 1)
    rw [nI_0] at this
    rw [hf] at this
    rw [this, q_Mod_search, if_pos (by decide)]
  · obtain ⟨f, hf⟩ : ∃ f, f + s = sN := ⟨sN - s, by unfold sN; omega⟩
    have := a5 f
    rw [nI_0, hf] at this
    exact ⟨res, this, a1, a2, a3, a4⟩
theorem sok : SOK sN := by
  intro M q v g hN hG
  obtain ⟨n, hn, hN⟩ := hN
  have hc := cb_all M q hn hN
  unfold r_Mod_search
  rw [hc]
  by_cases h0 : cb q n = 0
  · refine ⟨(1, s9 M 0 (-1)), ?_, Or.inr rfl, rfl, rfl, fun _ _ hq j hj => ?_⟩
    · rw [h0]
      exact if_pos nI_0
    · rw [hN] at hq
      rw [hq, cb_full hn] at h0
      rw [hN, nI_toInt (by omega)] at hj
      omega
  · obtain ⟨res, r1, r2, r3, r4, r5⟩ := sr_out (q := q) (v := v) (g := g) hn (cb_le q n) (by omega) hN
    refine ⟨res, ?_, r2, by rw [r3, hN], r4, fun a b hq j hj => ?_⟩
    · have hne : ¬ nI (cb q n) = 0 := nI_ne0 (by omega) (by have := cb_le q n; omega)
      exact (if_neg hne).trans r1
    · refine r5 a b j ?_
      rw [hN, nI_toInt (by omega)] at hj
      rw [hN] at hq
      rw [hq, cb_full hn]
      omega
