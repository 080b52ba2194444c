theorem t_half {t : Nat} (ht : t < 2 ^ 31) : nI t / 2 = nI (t / 2) ∧ nI t - nI t / 2 * 2 = nI (t % 2) := ⟨pk_div ht (by decide) (by decide), pk_rem ht (by decide) (by decide)⟩
theorem cd_t {t : Nat} (ht : t < 2 ^ 31) : cd (nI t) = t / 2 + 8 * (t % 2) := by unfold cd; rw [nI_clamp ht]
theorem iw_no {S P : MM} {x : Nat → Int32} {k : Int32} (h : ¬ x 1 < x 0) : r_Srch_isWorthMore S P x k = (0, tv [x 0, x 1, 1, x 3, x 4, x 5]) := if_neg h
theorem iw_ov {S P : MM} {x : Nat → Int32} {k : Int32} (h : x 1 < x 0) (h3 : ¬ x 3 = 0) (h5 : x 5 ≤ r_Plan_costOf S P k) : r_Srch_isWorthMore S P x k = (0, tv [x 0, x 1 + 1, x 2, x 3, x 4, x 5]) := by
  unfold r_Srch_isWorthMore
  rw [if_pos h]
  exact (if_neg h3).trans (if_pos h5)
theorem iw_ok {S P : MM} {x : Nat → Int32} {k : Int32} (h : x 1 < x 0) (h3 : x 3 = 0 ∨ ¬ x 5 ≤ r_Plan_costOf S P k) : r_Srch_isWorthMore S P x k = (1, tv [x 0, x 1 + 1, x 2, x 3, x 4, x 5]) := by
  unfold r_Srch_isWorthMore
  rw [if_pos h]
  by_cases h0 : x 3 = 0
  · exact if_pos h0
  · rcases h3 with h3 | h3
    · exact absurd h3 h0
    · exact (if_neg h0).trans (if_neg h3)
theorem npr8 (T : MM) : npr T 8 = T 8 := rfl
theorem npr11 (T : MM) : npr T 0 11 = T 0 11 := rfl
theorem nod8 (T : MM) (y : Int32) : nod T y 8 = T 8 := rfl
theorem nod11 (T : MM) (y : Int32) : nod T y 0 11 = T 0 11 + y := rfl
theorem XR.fin {S : MM} {n : Nat} {v h j : Int32} {M T : MM} {x : Nat → Int32} (hX : XR S n v h j M x) (k11 : T 0 11 = M 0 11) (k8 : T 8 = M 8) : XR S n v h j (npr T) (tv [x 0, x 1, 1, x 3, x 4, x 5]) := by
  obtain ⟨x0, x1e, x3, xh, xb, xbest⟩ := hX
  unfold XR
  rw [npr8, npr11, k8, k11]
  exact ⟨x0, x1e, x3, xh, xb, xbest⟩
theorem XR.nd {S : MM} {n : Nat} {v h j : Int32} {M T : MM} {x : Nat → Int32} (hX : XR S n v h j M x) (k11 : T 0 11 = M 0 11) (k8 : T 8 = M 8) (hlt : (x 1).toInt < v.toInt) : XR S n v h j (nod T 1) (tv [x 0, x 1 + 1, x 2, x 3, x 4, x 5]) := by
  obtain ⟨x0, x1e, x3, xh, xb, xbest⟩ := hX
  have hadd : (x 1 + 1).toInt = (x 1).toInt + 1 := by
    have e1 : (1 : Int32).toInt = 1 := by decide
    rw [ti_ad ⟨by omega, by omega⟩ ⟨by omega, by omega⟩, e1]
  unfold XR
  rw [nod8, nod11, k8, k11, ← x1e]
  refine ⟨x0, rfl, x3, xh, ?_, xbest⟩
  show 0 ≤ (x 1 + 1).toInt ∧ (x 1 + 1).toInt ≤ v.toInt ∧ v.toInt ≤ 100000
  omega
theorem npr10 (T : MM) : npr T 0 10 = 0 := rfl
theorem XR.top {S : MM} {n : Nat} {v h j c e4 : Int32} {M U P0 : MM} {x : Nat → Int32} (hX : XR S n v h j M x) (k11 : U 0 11 = M 0 11 + 1) (hlt : (x 1).toInt < v.toInt) (h4 : e4 = nI (enc (U 8) n)) (hC : CV n (U 8) n) (hV : PV S P0 (U 8) n) (hZ : PZ P0) : XR S n v 1 c U (tv [x 0, x 1 + 1, x 2, 1, e4, c]) := by
  obtain ⟨x0, x1e, x3, xh, xb, xbest⟩ := hX
  have hadd : (x 1 + 1).toInt = (x 1).toInt + 1 := by
    have e1 : (1 : Int32).toInt = 1 := by decide
    rw [ti_ad ⟨by omega, by omega⟩ ⟨by omega, by omega⟩, e1]
  unfold XR
  rw [k11, ← x1e]
  refine ⟨x0, rfl, rfl, Or.inr rfl, ?_, fun _ => ⟨rfl, h4, hC, P0, hV, hZ⟩⟩
  show 0 ≤ (x 1 + 1).toInt ∧ (x 1 + 1).toInt ≤ v.toInt ∧ v.toInt ≤ 100000
  omega
theorem nodc (T : MM) (y : Int32) : nod T y 0 7 = T 0 7 ∧ nod T y 0 8 = T 0 8 ∧ nod T y 0 13 = T 0 13 ∧ nod T y 0 14 = T 0 14 ∧ nod T y 0 15 = T 0 15 := ⟨rfl, rfl, rfl, rfl, rfl⟩
theorem cost_nod (T : MM) (y : Int32) : r_Mod_costNow (nod T y) = r_Mod_costNow T := by
  obtain ⟨h7, h8, h13, h14, h15⟩ := nodc T y
  simp only [r_Mod_costNow, h7, h8, h13, h14, h15]
theorem tv2 (a b c d e f : Int32) : tv [a, b, c, d, e, f] 2 = c := rfl
theorem nod9 (T : MM) (y : Int32) : nod T y 9 = T 9 := rfl
theorem nod10 (T : MM) (y : Int32) : nod T y 0 10 = T 0 10 := rfl
theorem s9_9 (M : MM) (k : Nat) (y : Int32) : s9 M k y 9 = upd (M 9) k y := rfl
theorem s9_10 (M : MM) (k : Nat) (y : Int32) : s9 M k y 0 10 = M 0 10 := rfl
theorem s9_8 (M : MM) (k : Nat) (y : Int32) : s9 M k y 8 = M 8 := rfl
theorem s9_11 (M : MM) (k : Nat) (y : Int32) : s9 M k y 0 11 = M 0 11 := rfl
theorem wi_h {h n : Nat} (hh : h < n) (hn : n ≤ 6) : ¬ r_Ord_within (nI h) 0 (nI n - 1) = 0 := by
  have e0 : (0 : Int32).toInt = 0 := by decide
  have e1 : nI n - 1 = nI (n - 1) := pk_sub (by omega : 1 ≤ n)
  rw [e1]
  exact wi_ok (by rw [e0, nI_toInt (by omega)]; omega) (by rw [nI_toInt (by omega), nI_toInt (by omega)]; omega)
set_option maxHeartbeats 4000000 in
theorem simB {S : MM} (hB : SB S) {n Q : Nat} (hn : n ≤ 6) (hN : S 0 0 = nI n) (hQ : Q < 2 ^ n) {v : Int32} : ∀ (d kk : Nat), kk + (d + 1) = n → ∀ (r t : Nat), t + r = 2 * n → ∀ (h j : Int32) (M : MM) (x : Nat → Int32) (P : MM) (L dep : Nat), d + 1 ≤ dep → SM S M → PV S P (M 9) kk → PZ P → CV n (M 9) kk → LR Q L kk (M 9) → c6 L + kk = n → M 9 kk + 1 = nI t → XR S n v h j M x → x 2 = 0 → M 0 10 = 1 →
    SO S n v (nI Q) kk h j M (bF (r_Srch_branch S dep) S (nI kk) (nI L) (nI (enc (M 9) kk)) r t (x, P)) := by
  intro d
  induction d using Nat.strongRecOn with
  | ind d ihd =>
  intro kk hkd r
  have hQ64 : Q < 64 := Nat.lt_of_lt_of_le hQ (Nat.pow_le_pow_right (by decide) hn)
  induction r with
  | zero =>
    intro t ht h j M x P L dep hdep hS hV hZ hC hL hc6 h9 hX hx2 h10
    have ecl : (nI kk).toNatClampNeg = kk := nI_clamp (by omega)
    refine ⟨hZ, Or.inl ⟨hx2, 1, h, j, s9 M kk (M 9 kk + 1), fun f => ?_, KB_s9 _ _ _, h10, fun p hp => upd_ne (by omega), hX, hV⟩⟩
    rw [iter (nI Q) v 0 (nI n) f (nI kk) h j M (nI_nneg (by omega)), ecl, if_pos]
    rw [h9, ← hS.1.1, hN, show (2 : Int32) = nI 2 from rfl, pk_mul]
    congr 1
  | succ r ihr =>
    intro t ht h j M x P L dep hdep hS hV hZ hC hL hc6 h9 hX hx2 h10
    have ecl : (nI kk).toNatClampNeg = kk := nI_clamp (by omega)
    have hne : ¬ nI t = 2 * M 0 1 := by
      rw [← hS.1.1, hN, show (2 : Int32) = nI 2 from rfl, pk_mul, nI_eq (by omega) (by omega)]; omega
    have hit := fun f => iter (nI Q) v 0 (nI n) f (nI kk) h j M (nI_nneg (by omega))
    obtain ⟨th, tc⟩ := t_half (t := t) (by omega)
    have hh6 : t / 2 < 6 := by omega
    have hhn : t / 2 < n := by omega
    simp only [ecl, h9, if_neg hne, th, bit_L Q hQ64 (t / 2) hh6] at hit
    have e9n : ∀ p, p < kk → s9 M kk (nI t) 9 p = M 9 p := fun p hp => upd_ne (by omega)
    have e9k : s9 M kk (nI t) 9 kk = nI t := pk_us
    have hS1 : SM S (s9 M kk (nI t)) := hS.of_KB (KB_s9 _ _ _)
    have hV1 : PV S P (s9 M kk (nI t) 9) kk := hV.keep (by omega) e9n
    have hC1 : CV n (s9 M kk (nI t) 9) (kk + 1) := fun p hp => by
      by_cases e : p = kk
      · exact ⟨t, by omega, by rw [e]; exact e9k⟩
      · rw [e9n p (by omega)]; exact hC p (by omega)
    -- what follows at this level
    have next : ∀ (h1 j1 : Int32) (M1 : MM) (x1 : Nat → Int32) (P1 : MM), KB M1 M → M1 9 kk = nI t → (∀ p, p < kk → M1 9 p = M 9 p) → PV S P1 (M 9) kk → PZ P1 → XR S n v h1 j1 M1 x1 → x1 2 = 0 → M1 0 10 = 1 → SO S n v (nI Q) kk h1 j1 M1 (bF (r_Srch_branch S dep) S (nI kk) (nI L) (nI (enc (M 9) kk)) r (t + 1) (x1, P1)) := by
      intro h1 j1 M1 x1 P1 a1 a2 a3 a4 a5 a6 a7 a8
      have := ihr (t + 1) (by omega) h1 j1 M1 x1 P1 L dep hdep (hS.of_KB a1) (a4.keep (by omega) a3) a5 (fun p hp => by rw [a3 p hp]; exact hC p hp) (hL.keep a3) hc6 (by rw [a2]; exact nI_1 t) a6 a7 a8
      rw [enc_c kk a3] at this
      exact this
    rw [bF]
    by_cases cb1 : L / 2 ^ (t / 2) % 2 = 1
    · obtain ⟨q1, q2⟩ := (hL.2 (t / 2) hh6).mp cb1
      have eA : bA (r_Srch_branch S dep) S (nI kk) (nI L) (nI (enc (M 9) kk)) t (x, P) = bT (r_Srch_branch S dep) S (nI kk) (nI L) (nI (enc (M 9) kk)) (nI (t / 2)) (nI (t % 2)) (x, P) := by
        unfold bA
        rw [if_pos hx2, bit_L L hL.1 (t / 2) hh6, cb1, if_neg (by decide)]
      have hus : r_Mod_isUsed (s9 M kk (nI t)) (nI kk) = 0 := (used_iff _ (by omega)).mpr (fun p hp => by rw [e9n p hp, e9k, th]; exact q2 p hp)
      rw [eA]
      simp only [q1, show nI 1 = (1 : Int32) from rfl, if_true, if_pos hus] at hit
      have e1w : nI kk + 1 = nI (kk + 1) := nI_1 kk
      simp only [e1w, work_iter (s9 M kk (nI t)) (by omega : kk + 1 ≤ 6)] at hit
      have hge := good_eq hS1 hB hZ (by omega : kk < 6) hV1 (by rw [e9k, th, hN]; exact wi_h hhn hn)
      have ecas : cas (s9 M kk (nI t)) kk = nI (t % 2) := by unfold cas; rw [e9k]; exact tc
      rw [e9k, th, ecas] at hge
      have hKT := ws_keep (s9 M kk (nI t)) (kk + 1)
      have hPV0 := put_PV (S := S) (P := P) (cs := M 9) (cs' := M 9) (Nat.le_refl kk) (by omega : kk < 6) (fun _ _ => rfl) (nI (t / 2)) (nI (t % 2)) hV
      have hPZ' := put_PZ (S := S) (P := P) (by omega : kk < 6) (nI (t / 2)) (nI (t % 2)) hZ
      have kb : KB (wsT (s9 M kk (nI t)) (kk + 1)).2.2 M := hKT.KB.tr (KB_s9 _ _ _)
      have k8 : (wsT (s9 M kk (nI t)) (kk + 1)).2.2 8 = M 8 := hKT.2.2.2.2.2.2.2.2.1
      have k11 : (wsT (s9 M kk (nI t)) (kk + 1)).2.2 0 11 = M 0 11 := hKT.1.2.2.2.2.2.2.2.2.2.2.2.1
      have k10 : (wsT (s9 M kk (nI t)) (kk + 1)).2.2 0 10 = 1 := hKT.1.2.2.2.2.2.2.2.2.2.2.1.trans h10
      have k9 : (wsT (s9 M kk (nI t)) (kk + 1)).2.2 9 = s9 M kk (nI t) 9 := hKT.2.2.2.2.2.2.2.2.2
      by_cases c1 : (r_Plan_put S P (nI kk) (nI (t / 2)) (nI (t % 2))).1 = 0
      · simp only [hge, if_pos c1] at hit
        have eT : bT (r_Srch_branch S dep) S (nI kk) (nI L) (nI (enc (M 9) kk)) (nI (t / 2)) (nI (t % 2)) (x, P) = (x, (r_Plan_put S P (nI kk) (nI (t / 2)) (nI (t % 2))).2) := if_pos c1
        rw [eT]
        exact SO.go (s0 := 1) (by omega) hit kb (fun p hp => by rw [k9]; exact e9n p hp) (next h j _ x _ kb (by rw [k9]; exact e9k) (fun p hp => by rw [k9]; exact e9n p hp) hPV0 hPZ' (hX.mv k11 k8) hx2 k10)
      · simp only [hge, if_neg c1] at hit
        have hPV1 : PV S (r_Plan_put S P (nI kk) (nI (t / 2)) (nI (t % 2))).2 (s9 M kk (nI t) 9) (kk + 1) := put_step (by omega) (by rw [hN]; exact wi_h hhn hn) hV e9n (by rw [e9k]; exact th) (by rw [e9k]; exact tc) c1
        have hWR := WR_all hS1 hB hPZ' (kk + 1) (by omega) hPV1
        have hcost := cost_eq (by omega) hS1 hWR
        obtain ⟨x0, x1e, x3, xh, xb, xbest⟩ := id hX
        have hxP : (x, P).1 = x := rfl
        generalize hP' : (r_Plan_put S P (nI kk) (nI (t / 2)) (nI (t % 2))).2 = P' at hPV0 hPZ' hPV1 hWR hcost
        generalize hTe : (wsT (s9 M kk (nI t)) (kk + 1)).2.2 = T at hit kb k8 k11 k10 k9 hcost
        have k9k : T 9 kk = nI t := by rw [k9]; exact e9k
        have k9n : ∀ p, p < kk → T 9 p = M 9 p := fun p hp => by rw [k9]; exact e9n p hp
        unfold aft at hit
        simp only [if_true, e1w] at hit
        by_cases c2 : T 0 11 = v
        · -- no node is left
          simp only [if_pos c2] at hit
          have hnlt : ¬ x 1 < x 0 := by rw [x0, x1e, ← k11, c2, Int32.lt_iff_toInt_lt]; omega
          have ew : r_Srch_isWorthMore S P' x (nI kk + 1) = (0, tv [x 0, x 1, 1, x 3, x 4, x 5]) := iw_no hnlt
          have eT : bT (r_Srch_branch S dep) S (nI kk) (nI L) (nI (enc (M 9) kk)) (nI (t / 2)) (nI (t % 2)) (x, P) = (tv [x 0, x 1, 1, x 3, x 4, x 5], P') := by
            unfold bT
            rw [if_neg c1, hP', ew, if_pos rfl]
          have h12 : ¬ ((tv [x 0, x 1, 1, x 3, x 4, x 5], P') : XP).1 2 = 0 := (by decide : ¬ (1 : Int32) = 0)
          rw [eT, bF_id _ _ _ h12]
          exact ⟨hPZ', Or.inr ⟨h12, 1, j, (h, npr T), hit, (KB_npr T).tr kb, npr10 T, hX.fin k11 k8⟩⟩
        · simp only [if_neg c2] at hit
          have hlt : x 1 < x 0 := by
            rw [Int32.lt_iff_toInt_lt, x0]
            have hne2 : ¬ (x 1).toInt = v.toInt := fun e => c2 (by rw [k11, ← x1e]; exact Int32.toInt_inj.mp e)
            omega
          have kbn : KB (nod T 1) M := (KB_nod T 1).tr kb
          have hcn : r_Mod_costNow (nod T 1) = r_Plan_costOf S P' (nI (kk + 1)) := (cost_nod T 1).trans hcost
          have hlt' : (x 1).toInt < v.toInt := by rw [Int32.lt_iff_toInt_lt, x0] at hlt; exact hlt
          have hXn := hX.nd k11 k8 hlt'
          by_cases c3 : ovr h j (nod T 1) = 0
          · simp only [if_pos c3] at hit
            have hw3 : x 3 = 0 ∨ ¬ x 5 ≤ r_Plan_costOf S P' (nI kk + 1) := by
              rw [x3, e1w]
              by_cases h0 : h = 0
              · exact Or.inl h0
              · refine Or.inr ?_
                unfold ovr at c3
                rw [if_neg h0, hcn] at c3
                by_cases hlt2 : r_Plan_costOf S P' (nI (kk + 1)) < j
                · rw [(xbest h0).1, Int32.le_iff_toInt_le]
                  rw [Int32.lt_iff_toInt_lt] at hlt2
                  omega
                · rw [if_neg hlt2] at c3; exact absurd c3 (by decide)
            have ew : r_Srch_isWorthMore S P' x (nI kk + 1) = (1, tv [x 0, x 1 + 1, x 2, x 3, x 4, x 5]) := iw_ok hlt hw3
            have hL' : nI L &&& ((1 <<< (nI (t / 2) &&& 31)) ^^^ (-1)) = nI (L - 2 ^ (t / 2)) := clr_L L hL.1 (t / 2) hh6 cb1
            have hst : r_Ord_withStep (nI (enc (M 9) kk)) (nI kk) (nI (t / 2)) (nI (t % 2)) = nI (enc (s9 M kk (nI t) 9) (kk + 1)) := by
              rw [with_enc (by omega) (enc_lt kk (hC.lt hn)) (by omega) (by omega), enc, enc_c kk e9n, e9k, cd_t (by omega)]
            have eT : bT (r_Srch_branch S dep) S (nI kk) (nI L) (nI (enc (M 9) kk)) (nI (t / 2)) (nI (t % 2)) (x, P) = r_Srch_branch S dep (nI (kk + 1)) (nI (L - 2 ^ (t / 2))) (nI (enc (s9 M kk (nI t) 9) (kk + 1))) (tv [x 0, x 1 + 1, x 2, x 3, x 4, x 5]) P' := by
              unfold bT
              rw [if_neg c1, hP', ew, if_neg (show ¬ (1 : Int32) = 0 by decide), hL', hst, e1w]
            have hLR' : LR Q (L - 2 ^ (t / 2)) (kk + 1) (s9 M kk (nI t) 9) := hL.next e9n hh6 cb1 (by rw [e9k]; exact th)
            have hc' : c6 (L - 2 ^ (t / 2)) + (kk + 1) = n := by
              have := clr_c L hL.1 (t / 2) hh6 cb1
              omega
            rw [eT]
            by_cases c4 : kk + 1 = n
            · -- a plan of all heats
              have hz : L - 2 ^ (t / 2) = 0 := (c6_0 _ hLR'.1).mp (by omega)
              have c4' : nI (kk + 1) = nI n := by rw [c4]
              simp only [if_pos c4'] at hit
              match dep, hdep with
              | dep + 1, hdep =>
                have eR : r_Srch_branch S (dep + 1) (nI (kk + 1)) (nI (L - 2 ^ (t / 2))) (nI (enc (s9 M kk (nI t) 9) (kk + 1))) (tv [x 0, x 1 + 1, x 2, x 3, x 4, x 5]) P' = (tv [x 0, x 1 + 1, x 2, 1, nI (enc (s9 M kk (nI t) 9) (kk + 1)), r_Plan_costOf S P' (nI (kk + 1))], P') := by
                  rw [hz, r_Srch_branch]
                  exact if_pos nI_0
                rw [eR]
                obtain ⟨⟨b0, b1, b2, b3, b4, b5, b6, b7, b9⟩, b8⟩ := cpy0 hn (nod T 1)
                have kbc := (KB_cpy hn (nod T 1)).tr kbn
                have b8' : ∀ p, p < n → b_Mod_search_221 (nI n) 8 0 (nod T 1) 8 p = s9 M kk (nI t) 9 p := fun p hp => by rw [b8 p, if_pos hp, nod9, k9]
                generalize b_Mod_search_221 (nI n) 8 0 (nod T 1) = U at hit b0 b9 b8 b8' kbc
                have u9k : U 9 kk = nI t := by rw [b9, nod9]; exact k9k
                have u9n : ∀ p, p < kk → U 9 p = M 9 p := fun p hp => by rw [b9, nod9]; exact k9n p hp
                have hXt : XR S n v 1 (r_Mod_costNow (nod T 1)) U (tv [x 0, x 1 + 1, x 2, 1, nI (enc (s9 M kk (nI t) 9) (kk + 1)), r_Mod_costNow (nod T 1)]) := hX.top (by rw [b0, nod11, k11]) hlt' (by rw [enc_c n b8', c4]) (fun p hp => by rw [b8' p hp]; exact hC1 p (by omega)) (by rw [c4] at hPV1; exact hPV1.keep hn b8') hPZ'
                rw [← hcn]
                have n2 : tv [x 0, x 1 + 1, x 2, 1, nI (enc (s9 M kk (nI t) 9) (kk + 1)), r_Mod_costNow (nod T 1)] 2 = 0 := by rw [tv2]; exact hx2
                have n10 : U 0 10 = 1 := by rw [b0, nod10]; exact k10
                exact SO.go (s0 := 1) (by omega) hit kbc u9n (next 1 _ U _ P' kbc u9k u9n hPV0 hPZ' hXt n2 n10)
            · have c4' : ¬ nI (kk + 1) = nI n := by rw [nI_eq (by omega) (by omega)]; exact c4
              simp only [if_neg c4', nI_clamp (by omega : kk + 1 < 2 ^ 31)] at hit
              match d, hkd, hdep, ihd with
              | 0, hkd, hdep, ihd => exact absurd (by omega) c4
              | d + 1, hkd, hdep, ihd =>
                match dep, hdep, next with
                | dep + 1, hdep, next =>
                  have hz : ¬ nI (L - 2 ^ (t / 2)) = 0 := by
                    rw [show (0 : Int32) = nI 0 from rfl, nI_eq (by have := hLR'.1; omega) (by decide)]
                    intro hz
                    have := (c6_0 _ hLR'.1).mpr hz
                    omega
                  have eR : r_Srch_branch S (dep + 1) (nI (kk + 1)) (nI (L - 2 ^ (t / 2))) (nI (enc (s9 M kk (nI t) 9) (kk + 1))) (tv [x 0, x 1 + 1, x 2, x 3, x 4, x 5]) P' = bF (r_Srch_branch S dep) S (nI (kk + 1)) (nI (L - 2 ^ (t / 2))) (nI (enc (s9 M kk (nI t) 9) (kk + 1))) (2 * n) 0 (tv [x 0, x 1 + 1, x 2, x 3, x 4, x 5], P') := by
                    rw [r_Srch_branch]
                    refine (if_neg hz).trans ?_
                    have := br_fold (rc := r_Srch_branch S dep) (S := S) (k := nI (kk + 1)) (q := nI (L - 2 ^ (t / 2))) (v := nI (enc (s9 M kk (nI t) 9) (kk + 1))) hn hN n 0 8 (tv [x 0, x 1 + 1, x 2, x 3, x 4, x 5]) P' (by omega) (by omega)
                    rw [nI_0] at this
                    exact this
                  have y9 : s9 (nod T 1) (kk + 1) (-1) 9 (kk + 1) = -1 := pk_us
                  have y9n : ∀ p, p < kk + 1 → s9 (nod T 1) (kk + 1) (-1) 9 p = s9 M kk (nI t) 9 p := fun p hp => by
                    rw [s9_9, upd_ne (by omega), nod9, k9]
                  have kb2 : KB (s9 (nod T 1) (kk + 1) (-1)) M := (KB_s9 _ _ _).tr kbn
                  have hO := ihd d (by omega) (kk + 1) (by omega) (2 * n) 0 (by omega) h j (s9 (nod T 1) (kk + 1) (-1)) (tv [x 0, x 1 + 1, x 2, x 3, x 4, x 5]) P' (L - 2 ^ (t / 2)) dep (by omega) (hS.of_KB kb2) (hPV1.keep (by omega) y9n) hPZ' (fun p hp => by rw [y9n p hp]; exact hC1 p hp) (hLR'.keep y9n) hc' (by rw [y9]; rfl) (hXn.mv (s9_11 _ _ _) (s9_8 _ _ _)) (by rw [tv2]; exact hx2) (by rw [s9_10, nod10]; exact k10)
                  rw [enc_c (kk + 1) y9n, ← eR] at hO
                  generalize r_Srch_branch S (dep + 1) (nI (kk + 1)) (nI (L - 2 ^ (t / 2))) (nI (enc (s9 M kk (nI t) 9) (kk + 1))) (tv [x 0, x 1 + 1, x 2, x 3, x 4, x 5]) P' = s2 at hO ⊢
                  obtain ⟨z, ⟨a0, s, h', j', M', a1, a2, a3, a4, a5, a6⟩ | ⟨a0, s, j', res, a1, a2, a3, a4⟩⟩ := hO
                  · rw [pk_m1] at a1
                    have m9k : M' 9 kk = nI t := by rw [a4 kk (by omega), y9n kk (by omega)]; exact e9k
                    have m9n : ∀ p, p < kk → M' 9 p = M 9 p := fun p hp => by rw [a4 p (by omega), y9n p (by omega)]; exact e9n p hp
                    have a6' : PV S s2.2 (M 9) kk := PV.keep (fun p hp => a6 p (by omega)) (by omega) (fun p hp => by rw [y9n p (by omega)]; exact (e9n p hp).symm)
                    refine SO.go (s0 := s + 1) (by omega) (fun f => ?_) (a2.tr kb2) m9n (next h' j' M' s2.1 s2.2 (a2.tr kb2) m9k m9n a6' z a5 a0 a3)
                    rw [← Nat.add_assoc, hit (f + s), a1 f]
                  · rw [bF_id _ _ _ a0]
                    refine ⟨z, Or.inr ⟨a0, s + 1, j', res, fun f => ?_, a2.tr kb2, a3, a4⟩⟩
                    rw [← Nat.add_assoc, hit (f + s), a1 f]
          · simp only [if_neg c3] at hit
            have h0 : ¬ h = 0 := fun h0 => c3 (by unfold ovr; rw [if_pos h0])
            have hge5 : x 5 ≤ r_Plan_costOf S P' (nI kk + 1) := by
              unfold ovr at c3
              rw [if_neg h0, hcn] at c3
              rw [(xbest h0).1, e1w, Int32.le_iff_toInt_le]
              by_cases hlt2 : r_Plan_costOf S P' (nI (kk + 1)) < j
              · rw [if_pos hlt2] at c3; exact absurd rfl c3
              · rw [Int32.lt_iff_toInt_lt] at hlt2; omega
            have ew : r_Srch_isWorthMore S P' x (nI kk + 1) = (0, tv [x 0, x 1 + 1, x 2, x 3, x 4, x 5]) := iw_ov hlt (by rw [x3]; exact h0) hge5
            have eT : bT (r_Srch_branch S dep) S (nI kk) (nI L) (nI (enc (M 9) kk)) (nI (t / 2)) (nI (t % 2)) (x, P) = (tv [x 0, x 1 + 1, x 2, x 3, x 4, x 5], P') := by
              unfold bT
              rw [if_neg c1, hP', ew, if_pos rfl]
            rw [eT]
            have n9k : nod T 1 9 kk = nI t := by rw [nod9]; exact k9k
            have n9n : ∀ p, p < kk → nod T 1 9 p = M 9 p := fun p hp => by rw [nod9]; exact k9n p hp
            have n10 : nod T 1 0 10 = 1 := by rw [nod10]; exact k10
            have n2 : tv [x 0, x 1 + 1, x 2, x 3, x 4, x 5] 2 = 0 := by rw [tv2]; exact hx2
            exact SO.go (s0 := 1) (by omega) hit kbn n9n (next h j (nod T 1) _ P' kbn n9k n9n hPV0 hPZ' hXn n2 n10)
    · have cb0 : L / 2 ^ (t / 2) % 2 = 0 := by omega
      have eA : bA (r_Srch_branch S dep) S (nI kk) (nI L) (nI (enc (M 9) kk)) t (x, P) = (x, P) := by
        unfold bA
        rw [if_pos hx2, bit_L L hL.1 (t / 2) hh6, cb0, if_pos nI_0]
      rw [eA]
      have hq : ∀ f, q_Mod_search (nI Q) v 0 (nI n) (f + 1) (nI kk) h j M = q_Mod_search (nI Q) v 0 (nI n) f (nI kk) h j (s9 M kk (nI t)) := by
        intro f
        rw [hit f]
        by_cases d1 : nI (Q / 2 ^ (t / 2) % 2) = 1
        · rw [if_pos d1]
          by_cases d2 : r_Mod_isUsed (s9 M kk (nI t)) (nI kk) = 0
          · exfalso
            apply cb1
            refine (hL.2 (t / 2) hh6).mpr ⟨?_, fun p hp => ?_⟩
            · rw [show (1 : Int32) = nI 1 from rfl, nI_eq (by omega) (by decide)] at d1; exact d1
            · have := (used_iff _ (by omega)).mp d2 p hp
              rw [e9n p hp, e9k, th] at this
              exact this
          · rw [if_neg d2]
        · rw [if_neg d1]
      exact SO.go (s0 := 1) (by omega) hq (KB_s9 _ _ _) e9n (next h j _ x P (KB_s9 _ _ _) e9k e9n hV hZ hX hx2 h10)
