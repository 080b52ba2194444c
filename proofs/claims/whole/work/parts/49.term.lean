/-! the mathematics: the model's search ends -/
theorem cpy (a : Nat) (ha : a ≤ 6) : ∀ (r i f : Nat) (M : MM), i + r = a → r < f → (b_Mod_search_221 (nI a) f (nI i) M 0 = M 0 ∧ b_Mod_search_221 (nI a) f (nI i) M 1 = M 1 ∧ b_Mod_search_221 (nI a) f (nI i) M 2 = M 2 ∧ b_Mod_search_221 (nI a) f (nI i) M 3 = M 3 ∧ b_Mod_search_221 (nI a) f (nI i) M 4 = M 4 ∧ b_Mod_search_221 (nI a) f (nI i) M 5 = M 5 ∧ b_Mod_search_221 (nI a) f (nI i) M 6 = M 6 ∧ b_Mod_search_221 (nI a) f (nI i) M 7 = M 7 ∧ b_Mod_search_221 (nI a) f (nI i) M 9 = M 9) ∧ ∀ j, b_Mod_search_221 (nI a) f (nI i) M 8 j = if i ≤ j ∧ j < a then M 9 j else M 8 j := by
  intro r
  induction r with
  | zero =>
    intro i f M h1 h2
    match f, h2 with
    | f + 1, _ =>
      have e : i = a := by omega
      subst e
      rw [b_Mod_search_221, if_pos (nI_le (Nat.le_refl _) (by omega))]
      exact ⟨⟨rfl, rfl, rfl, rfl, rfl, rfl, rfl, rfl, rfl⟩, fun j => by rw [if_neg (by omega)]⟩
  | succ r ih =>
    intro i f M h1 h2
    match f, h2 with
    | f + 1, h2 =>
      rw [b_Mod_search_221, if_neg (nI_ge (by omega) (by omega))]
      try dsimp only
      rw [nI_1, nI_clamp (by omega : i < 2 ^ 31)]
      obtain ⟨g1, g2⟩ := ih (i + 1) f (tb [M 0, M 1, M 2, M 3, M 4, M 5, M 6, M 7, upd (M 8) i (M 9 i), M 9, M 10, M 11, M 12, M 13]) (by omega) (by omega)
      refine ⟨g1, fun j => ?_⟩
      rw [g2 j]
      show (if i + 1 ≤ j ∧ j < a then M 9 j else upd (M 8) i (M 9 i) j) = _
      by_cases hj : j = i
      · subst hj
        rw [if_neg (by omega), if_pos (by omega)]
        exact pk_us
      · rw [upd_ne hj]
        by_cases h3 : i + 1 ≤ j ∧ j < a
        · rw [if_pos h3, if_pos (by omega)]
        · rw [if_neg h3, if_neg (by omega)]
theorem cpy0 {a : Nat} (ha : a ≤ 6) (M : MM) : (b_Mod_search_221 (nI a) 8 0 M 0 = M 0 ∧ b_Mod_search_221 (nI a) 8 0 M 1 = M 1 ∧ b_Mod_search_221 (nI a) 8 0 M 2 = M 2 ∧ b_Mod_search_221 (nI a) 8 0 M 3 = M 3 ∧ b_Mod_search_221 (nI a) 8 0 M 4 = M 4 ∧ b_Mod_search_221 (nI a) 8 0 M 5 = M 5 ∧ b_Mod_search_221 (nI a) 8 0 M 6 = M 6 ∧ b_Mod_search_221 (nI a) 8 0 M 7 = M 7 ∧ b_Mod_search_221 (nI a) 8 0 M 9 = M 9) ∧ ∀ j, b_Mod_search_221 (nI a) 8 0 M 8 j = if j < a then M 9 j else M 8 j := by
  obtain ⟨h1, h2⟩ := cpy a ha a 0 8 M (by omega) (by omega)
  rw [nI_0] at h1 h2
  exact ⟨h1, fun j => by rw [h2 j]; simp⟩
def Bd : Nat → Nat
  | 0 => 0
  | d + 1 => 13 * (2 + Bd d)
/-- the loop comes back to the level above within b rounds, or it ends -/
def Out (q v g : Int32) (n al kk b : Nat) (h j : Int32) (M : MM) : Prop :=
  (∃ s, s ≤ b ∧ ∃ (h' j' : Int32) (M' : MM), M' 0 1 = nI n ∧ M' 1 = M 1 ∧ (∀ p, p < kk → M' 9 p = M 9 p) ∧ (h' = 0 ∨ h' = 1) ∧ (¬ h' = 0 → ∀ p, p < al → vp_in (M' 8 p) 12) ∧ ∀ f, q_Mod_search q v g (nI al) (f + s) (nI kk) h j M = q_Mod_search q v g (nI al) f (nI kk + (-1)) h' j' M') ∨
  (∃ s, s ≤ b ∧ ∃ res : Int32 × MM, (res.1 = 0 ∨ res.1 = 1) ∧ res.2 0 1 = nI n ∧ res.2 1 = M 1 ∧ (¬ res.1 = 0 → g = 0 → ∀ p, p < al → vp_in (res.2 8 p) 12) ∧ ∀ f, q_Mod_search q v g (nI al) (f + s) (nI kk) h j M = some res)
theorem Out.go {q v g : Int32} {n al kk b b' s0 : Nat} {h j h1 j1 : Int32} {M M1 : MM} (hb : b + s0 ≤ b') (hq : ∀ f, q_Mod_search q v g (nI al) (f + s0) (nI kk) h j M = q_Mod_search q v g (nI al) f (nI kk) h1 j1 M1) (e1 : M1 1 = M 1) (e9 : ∀ p, p < kk → M1 9 p = M 9 p) (ho : Out q v g n al kk b h1 j1 M1) : Out q v g n al kk b' h j M := by
  rcases ho with ⟨s, hs, h', j', M', a1, a2, a3, a4, a5, a6⟩ | ⟨s, hs, res, a1, a2, a3, a4, a5⟩
  · refine Or.inl ⟨s + s0, by omega, h', j', M', a1, a2.trans e1, fun p hp => (a3 p hp).trans (e9 p hp), a4, a5, fun f => ?_⟩
    rw [← Nat.add_assoc, hq (f + s), a6 f]
  · refine Or.inr ⟨s + s0, by omega, res, a1, a2, a3.trans e1, a4, fun f => ?_⟩
    rw [← Nat.add_assoc, hq (f + s), a5 f]
theorem wk_keep {M : MM} {k : Nat} (hk : k < 6) : Keep (r_Mod_workOut M (nI k + 1)).2 M := by
  rw [nI_1, work_iter M (by omega)]
  exact ws_keep M (k + 1)
set_option maxHeartbeats 2000000 in
theorem term {q v g : Int32} {n al : Nat} (hn : n ≤ 6) (hal : al ≤ n) : ∀ (d kk : Nat), kk + (d + 1) = al → ∀ (r t : Nat), t + r = 2 * n → ∀ (h j : Int32) (M : MM), M 0 1 = nI n → M 9 kk + 1 = nI t → (∀ p, p < kk → vp_in (M 9 p) 12) → (h = 0 ∨ h = 1) → (¬ h = 0 → ∀ p, p < al → vp_in (M 8 p) 12) → Out q v g n al kk ((r + 1) * (2 + Bd d)) h j M := by
  intro d
  induction d using Nat.strongRecOn with
  | ind d ihd =>
  intro kk hkd r
  induction r with
  | zero =>
    intro t ht h j M hN h9 hp hh h8
    have ecl : (nI kk).toNatClampNeg = kk := nI_clamp (by omega)
    refine Or.inl ⟨1, by omega, h, j, s9 M kk (M 9 kk + 1), hN, rfl, fun p hp => upd_ne (by omega), hh, h8, fun f => ?_⟩
    rw [iter q v g (nI al) f (nI kk) h j M (nI_nneg (by omega)), ecl, if_pos]
    rw [h9, hN, show (2 : Int32) = nI 2 from rfl, pk_mul]
    congr 1
  | succ r ihr =>
    intro t ht h j M hN h9 hp hh h8
    have ecl : (nI kk).toNatClampNeg = kk := nI_clamp (by omega)
    have hB : (r + 1) * (2 + Bd d) + (2 + Bd d) = (r + 1 + 1) * (2 + Bd d) := by rw [Nat.succ_mul (r + 1)]
    have hb1 : (r + 1) * (2 + Bd d) + 1 ≤ (r + 1 + 1) * (2 + Bd d) := by omega
    have hb0 : 1 ≤ (r + 1 + 1) * (2 + Bd d) := by omega
    have hne : ¬ nI t = 2 * M 0 1 := by
      rw [hN, show (2 : Int32) = nI 2 from rfl, pk_mul, nI_eq (by omega) (by omega)]; omega
    have hit := fun f => iter q v g (nI al) f (nI kk) h j M (nI_nneg (by omega))
    simp only [ecl, h9, if_neg hne] at hit
    have e9n : ∀ p, p < kk → s9 M kk (nI t) 9 p = M 9 p := fun p hp => upd_ne (by omega)
    have e9k : s9 M kk (nI t) 9 kk = nI t := pk_us
    have next : ∀ (h1 j1 : Int32) (M1 : MM), M1 0 1 = nI n → M1 9 kk = nI t → (∀ p, p < kk → M1 9 p = M 9 p) → (h1 = 0 ∨ h1 = 1) → (¬ h1 = 0 → ∀ p, p < al → vp_in (M1 8 p) 12) → Out q v g n al kk ((r + 1) * (2 + Bd d)) h1 j1 M1 := fun h1 j1 M1 a1 a2 a3 a4 a5 =>
      ihr (t + 1) (by omega) h1 j1 M1 a1 (by rw [a2]; exact nI_1 t) (fun p hp' => by rw [a3 p hp']; exact hp p hp') a4 a5
    by_cases c1 : (q >>> (nI t / 2 &&& 31)) &&& 1 = 1
    · simp only [if_pos c1] at hit
      by_cases c2 : r_Mod_isUsed (s9 M kk (nI t)) (nI kk) = 0
      · simp only [if_pos c2] at hit
        have hK := wk_keep (M := s9 M kk (nI t)) (k := kk) (by omega)
        generalize hT : (r_Mod_workOut (s9 M kk (nI t)) (nI kk + 1)).2 = T at hit hK
        have k1 : T 1 = M 1 := hK.2.1
        have k01 : T 0 1 = nI n := hK.1.2.1.trans hN
        have k8 : T 8 = M 8 := hK.2.2.2.2.2.2.2.2.1
        have k9 : T 9 = s9 M kk (nI t) 9 := hK.2.2.2.2.2.2.2.2.2
        have k9k : T 9 kk = nI t := by rw [k9]; exact e9k
        have k9n : ∀ p, p < kk → T 9 p = M 9 p := fun p hp => by rw [k9]; exact e9n p hp
        by_cases c3 : (r_Mod_workOut (s9 M kk (nI t)) (nI kk + 1)).1 = 0
        · simp only [if_pos c3] at hit
          exact Out.go (s0 := 1) hb1 hit k1 k9n (next h j T k01 k9k k9n hh (by rw [k8]; exact h8))
        · simp only [if_neg c3] at hit
          -- deeper or at the bottom
          have deep : ∀ X : MM, X 0 1 = nI n → X 1 = M 1 → X 8 = M 8 → X 9 = T 9 → (∀ f, q_Mod_search q v g (nI al) (f + 1) (nI kk) h j M = q_Mod_search q v g (nI al) f (nI kk + 1) h j (s9 X (nI kk + 1).toNatClampNeg (-1))) → ¬ kk + 1 = al → Out q v g n al kk ((r + 1 + 1) * (2 + Bd d)) h j M := by
            intro X x01 x1 x8 x9 hq hna
            match d, hkd, ihd, hB, next with
            | 0, hkd, ihd, hB, next => exact absurd (by omega) hna
            | d + 1, hkd, ihd, hB, next =>
              have ecl1 : (nI kk + 1).toNatClampNeg = kk + 1 := by rw [nI_1]; exact nI_clamp (by omega)
              rw [ecl1, nI_1] at hq
              have y9 : s9 X (kk + 1) (-1) 9 (kk + 1) = -1 := pk_us
              have y9n : ∀ p, p < kk + 1 → s9 X (kk + 1) (-1) 9 p = T 9 p := fun p hp => by
                show upd (X 9) (kk + 1) (-1) p = _
                rw [upd_ne (by omega), x9]
              have hO := ihd d (by omega) (kk + 1) (by omega) (2 * n) 0 (by omega) h j (s9 X (kk + 1) (-1)) x01 (by rw [y9]; rfl) (fun p hp' => by
                rw [y9n p hp']
                by_cases hpk : p = kk
                · rw [hpk, k9k]; exact vp_in_nI (by omega) (by omega)
                · rw [k9n p (by omega)]; exact hp p (by omega)) hh (by show ¬ h = 0 → ∀ p, p < al → vp_in (X 8 p) 12; rw [x8]; exact h8)
              have hbd : (2 * n + 1) * (2 + Bd d) ≤ Bd (d + 1) := Nat.mul_le_mul_right _ (by omega)
              rcases hO with ⟨s, hs, h', j', M', a1, a2, a3, a4, a5, a6⟩ | ⟨s, hs, res, a1, a2, a3, a4, a5⟩
              · rw [pk_m1] at a6
                refine Out.go (s0 := s + 1) (b := (r + 1) * (2 + Bd (d + 1))) (by omega) (fun f => ?_) (a2.trans x1) (fun p hp' => by rw [a3 p (by omega), y9n p (by omega)]; exact k9n p hp') (next h' j' M' a1 (by rw [a3 kk (by omega), y9n kk (by omega)]; exact k9k) (fun p hp' => by rw [a3 p (by omega), y9n p (by omega)]; exact k9n p hp') a4 a5)
                rw [← Nat.add_assoc, hq (f + s), a6 f]
              · refine Or.inr ⟨s + 1, by omega, res, a1, a2, a3.trans x1, a4, fun f => ?_⟩
                rw [← Nat.add_assoc, hq (f + s), a5 f]
          have eki : (nI kk + 1 = nI al) = (kk + 1 = al) := by rw [nI_1, nI_eq (by omega) (by omega)]
          unfold aft at hit
          simp only [eki] at hit
          by_cases c4 : g = 0
          · simp only [if_pos c4] at hit
            by_cases c5 : T 0 11 = v
            · simp only [if_pos c5] at hit
              exact Or.inr ⟨1, hb0, (h, npr T), hh, k01, k1, fun a b => by show ∀ p, p < al → vp_in (T 8 p) 12; rw [k8]; exact h8 a, hit⟩
            · simp only [if_neg c5] at hit
              by_cases c6 : ovr h j (nod T 1) = 0
              · simp only [if_pos c6] at hit
                by_cases c7 : kk + 1 = al
                · simp only [if_pos c7] at hit
                  obtain ⟨g1, g8⟩ := cpy0 (by omega : al ≤ 6) (nod T 1)
                  obtain ⟨b0, b1, b2, b3, b4, b5, b6, b7, b9⟩ := g1
                  generalize b_Mod_search_221 (nI al) 8 0 (nod T 1) = U at hit b0 b1 b9 g8
                  have u9k : U 9 kk = nI t := by rw [b9]; exact k9k
                  have u9n : ∀ p, p < kk → U 9 p = M 9 p := fun p hp => by rw [b9]; exact k9n p hp
                  exact Out.go (s0 := 1) hb1 hit (b1.trans k1) u9n (next 1 _ U (by rw [b0]; exact k01) u9k u9n (Or.inr rfl) (fun _ p hp' => by
                    rw [g8 p, if_pos hp']
                    show vp_in (T 9 p) 12
                    by_cases hpk : p = kk
                    · rw [hpk, k9k]; exact vp_in_nI (by omega) (by omega)
                    · rw [k9n p (by omega)]; exact hp p (by omega)))
                · simp only [if_neg c7] at hit
                  exact deep (nod T 1) k01 k1 k8 rfl hit c7
              · simp only [if_neg c6] at hit
                exact Out.go (s0 := 1) hb1 hit k1 k9n (next h j (nod T 1) k01 k9k k9n hh (by show ¬ h = 0 → ∀ p, p < al → vp_in (T 8 p) 12; rw [k8]; exact h8))
          · simp only [if_neg c4] at hit
            by_cases c6 : ovr h j (nod T 0) = 0
            · simp only [if_pos c6] at hit
              by_cases c7 : kk + 1 = al
              · simp only [if_pos c7] at hit
                exact Or.inr ⟨1, hb0, (1, nod T 0), Or.inr rfl, k01, k1, fun _ b => absurd b c4, hit⟩
              · simp only [if_neg c7] at hit
                exact deep (nod T 0) k01 k1 k8 rfl hit c7
            · simp only [if_neg c6] at hit
              exact Out.go (s0 := 1) hb1 hit k1 k9n (next h j (nod T 0) k01 k9k k9n hh (by show ¬ h = 0 → ∀ p, p < al → vp_in (T 8 p) 12; rw [k8]; exact h8))
      · simp only [if_neg c2] at hit
        exact Out.go (s0 := 1) hb1 hit rfl e9n (next h j _ hN e9k e9n hh h8)
    · simp only [if_neg c1] at hit
      exact Out.go (s0 := 1) hb1 hit rfl e9n (next h j _ hN e9k e9n hh h8)
