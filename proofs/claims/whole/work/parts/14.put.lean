/-! the plan's put and lay -/
theorem in_w5 {k : Int32} (h : ¬ r_Ord_within k 0 5 = 0) : vp_in k 6 := by
  unfold r_Ord_within at h
  rw [vp_in_iff]
  split at h
  · exact absurd rfl h
  · split at h
    · exact absurd rfl h
    · rename_i h1 h2
      rw [Int32.lt_iff_toInt_lt] at h1 h2
      have e5 : (5 : Int32).toInt = 5 := by decide
      have e0 : (0 : Int32).toInt = 0 := by decide
      omega
theorem in_wh {N h : Int32} (hN : ∃ n : Nat, n ≤ 6 ∧ N = nI n) (hw : ¬ r_Ord_within h 0 (N - 1) = 0) : vp_in h 6 := by
  obtain ⟨n, hn, rfl⟩ := hN
  have e1 : (nI n - 1).toInt = (n : Int) - 1 := (by decide : ∀ n, n ≤ 6 → (nI n - 1).toInt = (n : Int) - 1) n hn
  unfold r_Ord_within at hw
  rw [vp_in_iff]
  split at hw
  · exact absurd rfl hw
  · split at hw
    · exact absurd rfl hw
    · rename_i h1 h2
      rw [Int32.lt_iff_toInt_lt] at h1 h2
      have e0 : (0 : Int32).toInt = 0 := by decide
      omega
theorem in_p {k : Int32} (h : vp_in k 6) (h0 : ¬ k = 0) : vp_in (k - 1) 6 := by
  obtain ⟨i, hi, rfl⟩ := vp_in_of h (by decide)
  match i, h0 with
  | 0, h0 => exact absurd nI_0 h0
  | i + 1, _ =>
    rw [nI_pred]
    exact vp_in_nI (by omega) (by decide)
theorem in_upd {f : Nat → Int32} {n k : Nat} {x : Int32} (h : ∀ j, vp_in (f j) n) (hx : vp_in x n) : ∀ j, vp_in (upd f k x j) n := by
  intro j
  unfold upd
  split
  · exact hx
  · exact h j
theorem q_latest_in (S P : Nat → Nat → Int32) (q k : Int32) : ∀ (n : Nat) (j : Int32), j.toInt < 6 → q_Plan_latestOn S P q k n j = -1 ∨ vp_in (q_Plan_latestOn S P q k n j) 6 ∨ n ≤ (j.toInt + 1).toNat := by
  intro n
  induction n with
  | zero => intro j _; exact Or.inr (Or.inr (Nat.zero_le _))
  | succ n ih =>
    intro j hj
    rw [q_Plan_latestOn]
    by_cases h0 : j < 0
    · rw [if_pos h0]; exact Or.inl rfl
    · have hin : vp_in j 6 := in_of h0 hj
      have h8 := vp_in_iff.mp hin
      have h9 := in6_dec hin
      rw [if_neg h0]
      dsimp only
      split
      · exact Or.inr (Or.inl hin)
      · rcases ih (j + (-1)) (by omega) with h | h | h
        · exact Or.inl h
        · exact Or.inr (Or.inl h)
        · exact Or.inr (Or.inr (by omega))
theorem latest_in {S P : Nat → Nat → Int32} {q k : Int32} (h : vp_in k 6) : r_Plan_latestOn S P q k = -1 ∨ vp_in (r_Plan_latestOn S P q k) 6 := by
  have h1 := in6_pred h
  rcases q_latest_in S P q k 8 (k - 1) h1.2 with h | h | h
  · exact Or.inl h
  · exact Or.inr h
  · omega
def r_Plan_put (S P : Nat → Nat → Int32) (k h q : Int32) : Int32 × (Nat → Nat → Int32) := let f_1 : Int32 := r_Ord_within k 0 5; if f_1 = 0 then ((0, P)) else (let f_3 : Int32 := (S 0 0) - 1; let f_4 : Int32 := r_Ord_within h 0 f_3; if f_4 = 0 then ((0, P)) else (let f_6 : Int32 := r_Shop_mayCast S h q; if f_6 = 0 then ((0, P)) else (if k = 0 then (let f_19 : Int32 := upd (P 2) k.toNatClampNeg 0 k.toNatClampNeg; let f_20 : Int32 := S 3 h.toNatClampNeg; let f_21 : Int32 := f_19 + f_20; let f_22 : Int32 := r_Plan_latestOn S (tb [upd (P 0) k.toNatClampNeg h, upd (P 1) k.toNatClampNeg q, upd (P 2) k.toNatClampNeg 0, upd (P 3) k.toNatClampNeg f_21, P 4, P 5, P 6, P 7, P 8, P 9, P 10]) q k; let f_23 : Int32 := (r_Plan_castStep S (tb [upd (P 0) k.toNatClampNeg h, upd (P 1) k.toNatClampNeg q, upd (P 2) k.toNatClampNeg 0, upd (P 3) k.toNatClampNeg f_21, P 4, P 5, P 6, P 7, P 8, P 9, P 10]) k f_22) 4 k.toNatClampNeg; let f_24 : Int32 := (r_Plan_castStep S (tb [upd (P 0) k.toNatClampNeg h, upd (P 1) k.toNatClampNeg q, upd (P 2) k.toNatClampNeg 0, upd (P 3) k.toNatClampNeg f_21, P 4, P 5, P 6, P 7, P 8, P 9, P 10]) k f_22) 3 k.toNatClampNeg; let f_25 : Int32 := f_23 - f_24; if S 0 1 < f_25 then ((0, (r_Plan_castStep S (tb [upd (P 0) k.toNatClampNeg h, upd (P 1) k.toNatClampNeg q, upd (P 2) k.toNatClampNeg 0, upd (P 3) k.toNatClampNeg f_21, P 4, P 5, P 6, P 7, P 8, P 9, P 10]) k f_22))) else ((1, (r_Plan_castStep S (tb [upd (P 0) k.toNatClampNeg h, upd (P 1) k.toNatClampNeg q, upd (P 2) k.toNatClampNeg 0, upd (P 3) k.toNatClampNeg f_21, P 4, P 5, P 6, P 7, P 8, P 9, P 10]) k f_22)))) else (let f_9 : Int32 := k - 1; let f_10 : Int32 := P 3 f_9.toNatClampNeg; let f_11 : Int32 := upd (P 2) k.toNatClampNeg f_10 k.toNatClampNeg; let f_12 : Int32 := S 3 h.toNatClampNeg; let f_13 : Int32 := f_11 + f_12; let f_14 : Int32 := r_Plan_latestOn S (tb [upd (P 0) k.toNatClampNeg h, upd (P 1) k.toNatClampNeg q, upd (P 2) k.toNatClampNeg f_10, upd (P 3) k.toNatClampNeg f_13, P 4, P 5, P 6, P 7, P 8, P 9, P 10]) q k; let f_15 : Int32 := (r_Plan_castStep S (tb [upd (P 0) k.toNatClampNeg h, upd (P 1) k.toNatClampNeg q, upd (P 2) k.toNatClampNeg f_10, upd (P 3) k.toNatClampNeg f_13, P 4, P 5, P 6, P 7, P 8, P 9, P 10]) k f_14) 4 k.toNatClampNeg; let f_16 : Int32 := (r_Plan_castStep S (tb [upd (P 0) k.toNatClampNeg h, upd (P 1) k.toNatClampNeg q, upd (P 2) k.toNatClampNeg f_10, upd (P 3) k.toNatClampNeg f_13, P 4, P 5, P 6, P 7, P 8, P 9, P 10]) k f_14) 3 k.toNatClampNeg; let f_17 : Int32 := f_15 - f_16; if S 0 1 < f_17 then ((0, (r_Plan_castStep S (tb [upd (P 0) k.toNatClampNeg h, upd (P 1) k.toNatClampNeg q, upd (P 2) k.toNatClampNeg f_10, upd (P 3) k.toNatClampNeg f_13, P 4, P 5, P 6, P 7, P 8, P 9, P 10]) k f_14))) else ((1, (r_Plan_castStep S (tb [upd (P 0) k.toNatClampNeg h, upd (P 1) k.toNatClampNeg q, upd (P 2) k.toNatClampNeg f_10, upd (P 3) k.toNatClampNeg f_13, P 4, P 5, P 6, P 7, P 8, P 9, P 10]) k f_14)))))))
set_option maxHeartbeats 4000000 in
set_option maxRecDepth 100000 in
theorem k_Plan_put (l : Launch) (D : va_G) (cA cZ cL : ClassId) (a : Nat) (d : Nat → Nat) (b : Nat) (g : Nat → Nat) (S P : Nat → Nat → Int32) (k h q : Int32) (hG : ∀ j, vp_in (S 1 j) 6) (hp : ∀ j, vp_in (P 0 j) 6) (hN : ∃ n : Nat, n ≤ 6 ∧ S 0 0 = nI n) : MetI l y_Plan_put (Cond.code y_Plan_put c_Plan_put 4 (some .boolean) :: base) ({ frames := 3, cells := 0, slots := 0, locals := 70 } : Room) D cls (tys3 cA cZ cL) ([.ref a, .int k, .int h, .int q]) (wPlan cA a d b P ++ wShop cA b g S) (r_Plan_put S P k h q).1 (wPlan cA a d b (r_Plan_put S P k h q).2 ++ wShop cA b g S) := by
  intro sz
  refine Met.ofW (cc := c_Plan_put) (maxL := 4) (ret := (some .boolean)) (by decide) rfl ?_
  intro p e s m args below meth c s₁ B hml hv
  obtain ⟨rfl, hsz, hP, hK, hZ, hD0⟩ := hv
  have hx := B.exec
  have hb := B.bytes
  have hr := B.returns
  have hts0 := atoms_spec (ws := (Cond.code y_Plan_put c_Plan_put 4 (some .boolean) :: base)) B.pre
  have hts : ∀ w ∈ base, w.before _ s = true := fun w h => hts0 w (List.mem_cons_of_mem _ h)
  have hown : s.vm.findClass R_Plan = some m.cls := findClass_of_methodNamed B.named
  have hlocks := B.notSynchronized
  have hP : va_P D cls [(a, .inr (0, [.ref b, .ref (d 0), .ref (d 1), .ref (d 2), .ref (d 3), .ref (d 4), .ref (d 5), .ref (d 6), .ref (d 7), .ref (d 8), .ref (d 9), .ref (d 10)])), (d 0, .inl (cA, 6, .inl (P 0))), (d 1, .inl (cA, 6, .inl (P 1))), (d 2, .inl (cA, 6, .inl (P 2))), (d 3, .inl (cA, 6, .inl (P 3))), (d 4, .inl (cA, 6, .inl (P 4))), (d 5, .inl (cA, 6, .inl (P 5))), (d 6, .inl (cA, 6, .inl (P 6))), (d 7, .inl (cA, 6, .inl (P 7))), (d 8, .inl (cA, 7, .inl (P 8))), (d 9, .inl (cA, 7, .inl (P 9))), (d 10, .inl (cA, 7, .inl (P 10))), (b, .inr (2, [.int (S 0 0), .ref (g 1), .ref (g 2), .ref (g 3), .ref (g 4), .ref (g 5), .ref (g 6), .int (S 0 1), .int (S 0 2), .int (S 0 3), .int (S 0 4), .int (S 0 5), .int (S 0 6), .int (S 0 7), .ref (g 7)])), (g 1, .inl (cA, 6, .inl (S 1))), (g 2, .inl (cA, 6, .inl (S 2))), (g 3, .inl (cA, 6, .inl (S 3))), (g 4, .inl (cA, 6, .inl (S 4))), (g 5, .inl (cA, 6, .inl (S 5))), (g 6, .inl (cA, 6, .inl (S 6))), (g 7, .inl (cA, 36, .inl (S 7)))] s.heap := hP
  subst hsz
  have hD := hD0.self (sz := s.heap.size)
  generalize hAe : va_A (wPlan cA a d b P ++ wShop cA b g S) s.heap.size = A at hD ⊢
  have hA : ∀ q : Nat, s.heap.size ≤ q → A q := fun q h => by rw [← hAe]; exact Or.inr h
  have hS : va_S A s.heap s.heap [] := va_S.rf
  have hD : va_D A [(a, .inr (0, [.ref b, .ref (d 0), .ref (d 1), .ref (d 2), .ref (d 3), .ref (d 4), .ref (d 5), .ref (d 6), .ref (d 7), .ref (d 8), .ref (d 9), .ref (d 10)])), (d 0, .inl (cA, 6, .inl (P 0))), (d 1, .inl (cA, 6, .inl (P 1))), (d 2, .inl (cA, 6, .inl (P 2))), (d 3, .inl (cA, 6, .inl (P 3))), (d 4, .inl (cA, 6, .inl (P 4))), (d 5, .inl (cA, 6, .inl (P 5))), (d 6, .inl (cA, 6, .inl (P 6))), (d 7, .inl (cA, 6, .inl (P 7))), (d 8, .inl (cA, 7, .inl (P 8))), (d 9, .inl (cA, 7, .inl (P 9))), (d 10, .inl (cA, 7, .inl (P 10))), (b, .inr (2, [.int (S 0 0), .ref (g 1), .ref (g 2), .ref (g 3), .ref (g 4), .ref (g 5), .ref (g 6), .int (S 0 1), .int (S 0 2), .int (S 0 3), .int (S 0 4), .int (S 0 5), .int (S 0 6), .int (S 0 7), .ref (g 7)])), (g 1, .inl (cA, 6, .inl (S 1))), (g 2, .inl (cA, 6, .inl (S 2))), (g 3, .inl (cA, 6, .inl (S 3))), (g 4, .inl (cA, 6, .inl (S 4))), (g 5, .inl (cA, 6, .inl (S 5))), (g 6, .inl (cA, 6, .inl (S 6))), (g 7, .inl (cA, 36, .inl (S 7)))] := hD
  have hl := lv_entry ([.ref a, .int k, .int h, .int q]) (n := 4) (Nat.le_of_ble_eq_true rfl)
  rw [lg_entry_eq]
  generalize (lg_sl ([.ref a, .int k, .int h, .int q]) ++ List.replicate (4 - (lg_sl ([.ref a, .int k, .int h, .int q])).length) Slot.unset).toArray = ls at hl ⊢
  have hl : lv_has ls 4 [(0, .ref a), (1, .int k), (2, .int h), (3, .int q)] := hl
  refine lv_iload_n hx hb d_Plan_put_0 rfl (lv_at hl 1 rfl) ?_
  refine lv_iconst (v := 0) hx hb d_Plan_put_1 (by decide) ?_
  refine lv_iconst (v := 5) hx hb d_Plan_put_2 (by decide) ?_
  refine hr_callSN (As := [.int k, .int 0, .int 5]) (rest := []) ⟨hx, hb, hml, hown, hts⟩ (k_Ord_within l D cA cZ cL k 0 5) (bn_S 3 hts mb_239 (hts _ mb_1) hZ.1 (hts _ mb_238) (by decide +kernel) ⟨Nat.le_of_ble_eq_true rfl, Nat.le_of_ble_eq_true rfl⟩) hK hZ hP [] rfl rfl hl.1 rfl (lv_room (Nat.le_of_ble_eq_true rfl)) d_Plan_put_3 ⟨Nat.zero_le _, Nat.zero_le _⟩ ?_
  refine lv_topi (fun f_1 ef_1 => ?_)
  refine lv_if_eq (tgt := 26) hx hb d_Plan_put_6 (by decide) (fun c_2 => ?_) (fun c_2 => ?_)
  · skip
    refine lv_iconst (v := 0) hx hb d_Plan_put_26 (by decide) ?_
    have e9 : r_Plan_put S P k h q = (0, P) := by
      subst ef_1; unfold r_Plan_put; simp only [if_pos c_2]
    exact W.zret (v := 0) hx hb hr rfl (fun t ht hW => ⟨⟨_, (), rfl, (by rw [e9]), (by rw [e9, ht]; exact hP.sub [0, 1, 2, 3, 4, 5, 6, 7, 8, 9, 10, 11, 12, 13, 14, 15, 16, 17, 18, 19] rfl), (by rw [e9]; exact hD.sub [0, 1, 2, 3, 4, 5, 6, 7, 8, 9, 10, 11, 12, 13, 14, 15, 16, 17, 18, 19] (by decide) rfl)⟩, hS.F ht⟩) hS.2.2 d_Plan_put_27
  · skip
    have hk : vp_in k 6 := in_w5 (by rw [← ef_1]; exact c_2)
    refine lv_iload_n hx hb d_Plan_put_9 rfl (lv_at hl 2 rfl) ?_
    refine lv_iconst (v := 0) hx hb d_Plan_put_10 (by decide) ?_
    refine lv_aload_n hx hb d_Plan_put_11 rfl (lv_at hl 0 rfl) ?_
    refine va_get (D := D) (ci := 0) (v := .ref b) (C := R_Plan) (T := T_Plan) (N := 12) hx hb hts i_Plan hown hK hP 0 rfl rfl 0 (by decide) (hts _ mb_111) (fun _ h9 => h9) rfl d_Plan_put_12 ?_
    refine va_get (D := D) (ci := 2) (v := .int (S 0 0)) (C := R_Shop) (T := T_Shop) (N := 15) hx hb hts i_Shop hown hK hP 12 rfl rfl 0 (by decide) (hts _ mb_30) (fun _ h9 => h9) rfl d_Plan_put_15 ?_
    refine lv_iconst (v := 1) hx hb d_Plan_put_18 (by decide) ?_
    refine lv_isub hx hb d_Plan_put_19 ?_
    refine lv_topi (fun f_3 ef_3 => ?_)
    refine hr_callSN (As := [.int h, .int 0, .int f_3]) (rest := []) ⟨hx, hb, hml, hown, hts⟩ (k_Ord_within l D cA cZ cL h 0 f_3) (bn_S 3 hts mb_239 (hts _ mb_1) hZ.1 (hts _ mb_238) (by decide +kernel) ⟨Nat.le_of_ble_eq_true rfl, Nat.le_of_ble_eq_true rfl⟩) hK hZ hP [] rfl rfl hl.1 rfl (lv_room (Nat.le_of_ble_eq_true rfl)) d_Plan_put_20 ⟨Nat.zero_le _, Nat.zero_le _⟩ ?_
    refine lv_topi (fun f_4 ef_4 => ?_)
    refine lv_if_ne (tgt := 28) hx hb d_Plan_put_23 (by decide) (fun c_5 => ?_) (fun c_5 => ?_)
    · skip
      have hh : vp_in h 6 := in_wh hN (by rw [← ef_3, ← ef_4]; exact c_5)
      refine lv_aload_n hx hb d_Plan_put_28 rfl (lv_at hl 0 rfl) ?_
      refine va_get (D := D) (ci := 0) (v := .ref b) (C := R_Plan) (T := T_Plan) (N := 12) hx hb hts i_Plan hown hK hP 0 rfl rfl 0 (by decide) (hts _ mb_111) (fun _ h9 => h9) rfl d_Plan_put_29 ?_
      refine lv_iload_n hx hb d_Plan_put_32 rfl (lv_at hl 2 rfl) ?_
      refine lv_iload_n hx hb d_Plan_put_33 rfl (lv_at hl 3 rfl) ?_
      refine hr_callV (C := R_Shop) (T := T_Shop) (N := 15) (As := [.int h, .int q]) (rest := []) ⟨hx, hb, hml, hown, hts⟩ (k_Shop_mayCast l D cA cZ cL b g S h q hh) (bv_V 2 hts mb_243 (hts _ mb_2) (hts _ mb_240) (hts _ mb_241) (hts _ mb_242) (by decide +kernel) ⟨Nat.le_of_ble_eq_true rfl, Nat.le_of_ble_eq_true rfl⟩) hK hZ hP [12, 13, 14, 15, 16, 17, 18, 19] rfl 12 2 rfl rfl rfl hl.1 rfl (lv_room (Nat.le_of_ble_eq_true rfl)) d_Plan_put_34 ⟨Nat.zero_le _, Nat.zero_le _⟩ ?_
      refine lv_topi (fun f_6 ef_6 => ?_)
      refine lv_if_ne (tgt := 42) hx hb d_Plan_put_37 (by decide) (fun c_7 => ?_) (fun c_7 => ?_)
      · skip
        refine lv_aload_n hx hb d_Plan_put_42 rfl (lv_at hl 0 rfl) ?_
        refine va_get (D := D) (ci := 0) (v := .ref (d 0)) (C := R_Plan) (T := T_Plan) (N := 12) hx hb hts i_Plan hown hK hP 0 rfl rfl 1 (by decide) (hts _ mb_112) (fun _ h9 => h9) rfl d_Plan_put_43 ?_
        refine lv_iload_n hx hb d_Plan_put_46 rfl (lv_at hl 1 rfl) ?_
        refine lv_iload_n hx hb d_Plan_put_47 rfl (lv_at hl 2 rfl) ?_
        refine va_iast hx hb hK hP hD hS 1 0 rfl rfl hk d_Plan_put_48 (fun H locs hP hD hS => ?_)
        have hP : va_P D cls [(a, .inr (0, [.ref b, .ref (d 0), .ref (d 1), .ref (d 2), .ref (d 3), .ref (d 4), .ref (d 5), .ref (d 6), .ref (d 7), .ref (d 8), .ref (d 9), .ref (d 10)])), (d 0, .inl (cA, 6, .inl (upd (P 0) k.toNatClampNeg h))), (d 1, .inl (cA, 6, .inl (P 1))), (d 2, .inl (cA, 6, .inl (P 2))), (d 3, .inl (cA, 6, .inl (P 3))), (d 4, .inl (cA, 6, .inl (P 4))), (d 5, .inl (cA, 6, .inl (P 5))), (d 6, .inl (cA, 6, .inl (P 6))), (d 7, .inl (cA, 6, .inl (P 7))), (d 8, .inl (cA, 7, .inl (P 8))), (d 9, .inl (cA, 7, .inl (P 9))), (d 10, .inl (cA, 7, .inl (P 10))), (b, .inr (2, [.int (S 0 0), .ref (g 1), .ref (g 2), .ref (g 3), .ref (g 4), .ref (g 5), .ref (g 6), .int (S 0 1), .int (S 0 2), .int (S 0 3), .int (S 0 4), .int (S 0 5), .int (S 0 6), .int (S 0 7), .ref (g 7)])), (g 1, .inl (cA, 6, .inl (S 1))), (g 2, .inl (cA, 6, .inl (S 2))), (g 3, .inl (cA, 6, .inl (S 3))), (g 4, .inl (cA, 6, .inl (S 4))), (g 5, .inl (cA, 6, .inl (S 5))), (g 6, .inl (cA, 6, .inl (S 6))), (g 7, .inl (cA, 36, .inl (S 7)))] H := hP
        have hD : va_D A [(a, .inr (0, [.ref b, .ref (d 0), .ref (d 1), .ref (d 2), .ref (d 3), .ref (d 4), .ref (d 5), .ref (d 6), .ref (d 7), .ref (d 8), .ref (d 9), .ref (d 10)])), (d 0, .inl (cA, 6, .inl (upd (P 0) k.toNatClampNeg h))), (d 1, .inl (cA, 6, .inl (P 1))), (d 2, .inl (cA, 6, .inl (P 2))), (d 3, .inl (cA, 6, .inl (P 3))), (d 4, .inl (cA, 6, .inl (P 4))), (d 5, .inl (cA, 6, .inl (P 5))), (d 6, .inl (cA, 6, .inl (P 6))), (d 7, .inl (cA, 6, .inl (P 7))), (d 8, .inl (cA, 7, .inl (P 8))), (d 9, .inl (cA, 7, .inl (P 9))), (d 10, .inl (cA, 7, .inl (P 10))), (b, .inr (2, [.int (S 0 0), .ref (g 1), .ref (g 2), .ref (g 3), .ref (g 4), .ref (g 5), .ref (g 6), .int (S 0 1), .int (S 0 2), .int (S 0 3), .int (S 0 4), .int (S 0 5), .int (S 0 6), .int (S 0 7), .ref (g 7)])), (g 1, .inl (cA, 6, .inl (S 1))), (g 2, .inl (cA, 6, .inl (S 2))), (g 3, .inl (cA, 6, .inl (S 3))), (g 4, .inl (cA, 6, .inl (S 4))), (g 5, .inl (cA, 6, .inl (S 5))), (g 6, .inl (cA, 6, .inl (S 6))), (g 7, .inl (cA, 36, .inl (S 7)))] := hD
        refine lv_aload_n hx hb d_Plan_put_49 rfl (lv_at hl 0 rfl) ?_
        refine va_get (D := D) (ci := 0) (v := .ref (d 1)) (C := R_Plan) (T := T_Plan) (N := 12) hx hb hts i_Plan hown hK hP 0 rfl rfl 2 (by decide) (hts _ mb_114) (fun _ h9 => h9) rfl d_Plan_put_50 ?_
        refine lv_iload_n hx hb d_Plan_put_53 rfl (lv_at hl 1 rfl) ?_
        refine lv_iload_n hx hb d_Plan_put_54 rfl (lv_at hl 3 rfl) ?_
        refine va_iast hx hb hK hP hD hS 2 0 rfl rfl hk d_Plan_put_55 (fun H locs hP hD hS => ?_)
        have hP : va_P D cls [(a, .inr (0, [.ref b, .ref (d 0), .ref (d 1), .ref (d 2), .ref (d 3), .ref (d 4), .ref (d 5), .ref (d 6), .ref (d 7), .ref (d 8), .ref (d 9), .ref (d 10)])), (d 0, .inl (cA, 6, .inl (upd (P 0) k.toNatClampNeg h))), (d 1, .inl (cA, 6, .inl (upd (P 1) k.toNatClampNeg q))), (d 2, .inl (cA, 6, .inl (P 2))), (d 3, .inl (cA, 6, .inl (P 3))), (d 4, .inl (cA, 6, .inl (P 4))), (d 5, .inl (cA, 6, .inl (P 5))), (d 6, .inl (cA, 6, .inl (P 6))), (d 7, .inl (cA, 6, .inl (P 7))), (d 8, .inl (cA, 7, .inl (P 8))), (d 9, .inl (cA, 7, .inl (P 9))), (d 10, .inl (cA, 7, .inl (P 10))), (b, .inr (2, [.int (S 0 0), .ref (g 1), .ref (g 2), .ref (g 3), .ref (g 4), .ref (g 5), .ref (g 6), .int (S 0 1), .int (S 0 2), .int (S 0 3), .int (S 0 4), .int (S 0 5), .int (S 0 6), .int (S 0 7), .ref (g 7)])), (g 1, .inl (cA, 6, .inl (S 1))), (g 2, .inl (cA, 6, .inl (S 2))), (g 3, .inl (cA, 6, .inl (S 3))), (g 4, .inl (cA, 6, .inl (S 4))), (g 5, .inl (cA, 6, .inl (S 5))), (g 6, .inl (cA, 6, .inl (S 6))), (g 7, .inl (cA, 36, .inl (S 7)))] H := hP
        have hD : va_D A [(a, .inr (0, [.ref b, .ref (d 0), .ref (d 1), .ref (d 2), .ref (d 3), .ref (d 4), .ref (d 5), .ref (d 6), .ref (d 7), .ref (d 8), .ref (d 9), .ref (d 10)])), (d 0, .inl (cA, 6, .inl (upd (P 0) k.toNatClampNeg h))), (d 1, .inl (cA, 6, .inl (upd (P 1) k.toNatClampNeg q))), (d 2, .inl (cA, 6, .inl (P 2))), (d 3, .inl (cA, 6, .inl (P 3))), (d 4, .inl (cA, 6, .inl (P 4))), (d 5, .inl (cA, 6, .inl (P 5))), (d 6, .inl (cA, 6, .inl (P 6))), (d 7, .inl (cA, 6, .inl (P 7))), (d 8, .inl (cA, 7, .inl (P 8))), (d 9, .inl (cA, 7, .inl (P 9))), (d 10, .inl (cA, 7, .inl (P 10))), (b, .inr (2, [.int (S 0 0), .ref (g 1), .ref (g 2), .ref (g 3), .ref (g 4), .ref (g 5), .ref (g 6), .int (S 0 1), .int (S 0 2), .int (S 0 3), .int (S 0 4), .int (S 0 5), .int (S 0 6), .int (S 0 7), .ref (g 7)])), (g 1, .inl (cA, 6, .inl (S 1))), (g 2, .inl (cA, 6, .inl (S 2))), (g 3, .inl (cA, 6, .inl (S 3))), (g 4, .inl (cA, 6, .inl (S 4))), (g 5, .inl (cA, 6, .inl (S 5))), (g 6, .inl (cA, 6, .inl (S 6))), (g 7, .inl (cA, 36, .inl (S 7)))] := hD
        refine lv_aload_n hx hb d_Plan_put_56 rfl (lv_at hl 0 rfl) ?_
        refine va_get (D := D) (ci := 0) (v := .ref (d 2)) (C := R_Plan) (T := T_Plan) (N := 12) hx hb hts i_Plan hown hK hP 0 rfl rfl 3 (by decide) (hts _ mb_116) (fun _ h9 => h9) rfl d_Plan_put_57 ?_
        refine lv_iload_n hx hb d_Plan_put_60 rfl (lv_at hl 1 rfl) ?_
        refine lv_iload_n hx hb d_Plan_put_61 rfl (lv_at hl 1 rfl) ?_
        refine lv_if_ne (tgt := 69) hx hb d_Plan_put_62 (by decide) (fun c_8 => ?_) (fun c_8 => ?_)
        · skip
          refine lv_aload_n hx hb d_Plan_put_69 rfl (lv_at hl 0 rfl) ?_
          refine va_get (D := D) (ci := 0) (v := .ref (d 3)) (C := R_Plan) (T := T_Plan) (N := 12) hx hb hts i_Plan hown hK hP 0 rfl rfl 4 (by decide) (hts _ mb_118) (fun _ h9 => h9) rfl d_Plan_put_70 ?_
          refine lv_iload_n hx hb d_Plan_put_73 rfl (lv_at hl 1 rfl) ?_
          refine lv_iconst (v := 1) hx hb d_Plan_put_74 (by decide) ?_
          refine lv_isub hx hb d_Plan_put_75 ?_
          refine lv_topi (fun f_9 ef_9 => ?_)
          refine va_iald hx hb hK hP 4 0 rfl rfl (by rw [ef_9]; exact in_p hk c_8) d_Plan_put_76 ?_
          refine lv_topi (fun f_10 ef_10 => ?_)
          refine va_iast hx hb hK hP hD hS 3 0 rfl rfl hk d_Plan_put_77 (fun H locs hP hD hS => ?_)
          have hP : va_P D cls [(a, .inr (0, [.ref b, .ref (d 0), .ref (d 1), .ref (d 2), .ref (d 3), .ref (d 4), .ref (d 5), .ref (d 6), .ref (d 7), .ref (d 8), .ref (d 9), .ref (d 10)])), (d 0, .inl (cA, 6, .inl (upd (P 0) k.toNatClampNeg h))), (d 1, .inl (cA, 6, .inl (upd (P 1) k.toNatClampNeg q))), (d 2, .inl (cA, 6, .inl (upd (P 2) k.toNatClampNeg f_10))), (d 3, .inl (cA, 6, .inl (P 3))), (d 4, .inl (cA, 6, .inl (P 4))), (d 5, .inl (cA, 6, .inl (P 5))), (d 6, .inl (cA, 6, .inl (P 6))), (d 7, .inl (cA, 6, .inl (P 7))), (d 8, .inl (cA, 7, .inl (P 8))), (d 9, .inl (cA, 7, .inl (P 9))), (d 10, .inl (cA, 7, .inl (P 10))), (b, .inr (2, [.int (S 0 0), .ref (g 1), .ref (g 2), .ref (g 3), .ref (g 4), .ref (g 5), .ref (g 6), .int (S 0 1), .int (S 0 2), .int (S 0 3), .int (S 0 4), .int (S 0 5), .int (S 0 6), .int (S 0 7), .ref (g 7)])), (g 1, .inl (cA, 6, .inl (S 1))), (g 2, .inl (cA, 6, .inl (S 2))), (g 3, .inl (cA, 6, .inl (S 3))), (g 4, .inl (cA, 6, .inl (S 4))), (g 5, .inl (cA, 6, .inl (S 5))), (g 6, .inl (cA, 6, .inl (S 6))), (g 7, .inl (cA, 36, .inl (S 7)))] H := hP
          have hD : va_D A [(a, .inr (0, [.ref b, .ref (d 0), .ref (d 1), .ref (d 2), .ref (d 3), .ref (d 4), .ref (d 5), .ref (d 6), .ref (d 7), .ref (d 8), .ref (d 9), .ref (d 10)])), (d 0, .inl (cA, 6, .inl (upd (P 0) k.toNatClampNeg h))), (d 1, .inl (cA, 6, .inl (upd (P 1) k.toNatClampNeg q))), (d 2, .inl (cA, 6, .inl (upd (P 2) k.toNatClampNeg f_10))), (d 3, .inl (cA, 6, .inl (P 3))), (d 4, .inl (cA, 6, .inl (P 4))), (d 5, .inl (cA, 6, .inl (P 5))), (d 6, .inl (cA, 6, .inl (P 6))), (d 7, .inl (cA, 6, .inl (P 7))), (d 8, .inl (cA, 7, .inl (P 8))), (d 9, .inl (cA, 7, .inl (P 9))), (d 10, .inl (cA, 7, .inl (P 10))), (b, .inr (2, [.int (S 0 0), .ref (g 1), .ref (g 2), .ref (g 3), .ref (g 4), .ref (g 5), .ref (g 6), .int (S 0 1), .int (S 0 2), .int (S 0 3), .int (S 0 4), .int (S 0 5), .int (S 0 6), .int (S 0 7), .ref (g 7)])), (g 1, .inl (cA, 6, .inl (S 1))), (g 2, .inl (cA, 6, .inl (S 2))), (g 3, .inl (cA, 6, .inl (S 3))), (g 4, .inl (cA, 6, .inl (S 4))), (g 5, .inl (cA, 6, .inl (S 5))), (g 6, .inl (cA, 6, .inl (S 6))), (g 7, .inl (cA, 36, .inl (S 7)))] := hD
          refine lv_aload_n hx hb d_Plan_put_78 rfl (lv_at hl 0 rfl) ?_
          refine va_get (D := D) (ci := 0) (v := .ref (d 3)) (C := R_Plan) (T := T_Plan) (N := 12) hx hb hts i_Plan hown hK hP 0 rfl rfl 4 (by decide) (hts _ mb_118) (fun _ h9 => h9) rfl d_Plan_put_79 ?_
          refine lv_iload_n hx hb d_Plan_put_82 rfl (lv_at hl 1 rfl) ?_
          refine lv_aload_n hx hb d_Plan_put_83 rfl (lv_at hl 0 rfl) ?_
          refine va_get (D := D) (ci := 0) (v := .ref (d 2)) (C := R_Plan) (T := T_Plan) (N := 12) hx hb hts i_Plan hown hK hP 0 rfl rfl 3 (by decide) (hts _ mb_116) (fun _ h9 => h9) rfl d_Plan_put_84 ?_
          refine lv_iload_n hx hb d_Plan_put_87 rfl (lv_at hl 1 rfl) ?_
          refine va_iald hx hb hK hP 3 0 rfl rfl hk d_Plan_put_88 ?_
          refine lv_topi (fun f_11 ef_11 => ?_)
          refine lv_aload_n hx hb d_Plan_put_89 rfl (lv_at hl 0 rfl) ?_
          refine va_get (D := D) (ci := 0) (v := .ref b) (C := R_Plan) (T := T_Plan) (N := 12) hx hb hts i_Plan hown hK hP 0 rfl rfl 0 (by decide) (hts _ mb_111) (fun _ h9 => h9) rfl d_Plan_put_90 ?_
          refine va_get (D := D) (ci := 2) (v := .ref (g 3)) (C := R_Shop) (T := T_Shop) (N := 15) hx hb hts i_Shop hown hK hP 12 rfl rfl 3 (by decide) (hts _ mb_36) (fun _ h9 => h9) rfl d_Plan_put_93 ?_
          refine lv_iload_n hx hb d_Plan_put_96 rfl (lv_at hl 2 rfl) ?_
          refine va_iald hx hb hK hP 15 0 rfl rfl hh d_Plan_put_97 ?_
          refine lv_topi (fun f_12 ef_12 => ?_)
          refine lv_iadd hx hb d_Plan_put_98 ?_
          refine lv_topi (fun f_13 ef_13 => ?_)
          refine va_iast hx hb hK hP hD hS 4 0 rfl rfl hk d_Plan_put_99 (fun H locs hP hD hS => ?_)
          have hP : va_P D cls [(a, .inr (0, [.ref b, .ref (d 0), .ref (d 1), .ref (d 2), .ref (d 3), .ref (d 4), .ref (d 5), .ref (d 6), .ref (d 7), .ref (d 8), .ref (d 9), .ref (d 10)])), (d 0, .inl (cA, 6, .inl (upd (P 0) k.toNatClampNeg h))), (d 1, .inl (cA, 6, .inl (upd (P 1) k.toNatClampNeg q))), (d 2, .inl (cA, 6, .inl (upd (P 2) k.toNatClampNeg f_10))), (d 3, .inl (cA, 6, .inl (upd (P 3) k.toNatClampNeg f_13))), (d 4, .inl (cA, 6, .inl (P 4))), (d 5, .inl (cA, 6, .inl (P 5))), (d 6, .inl (cA, 6, .inl (P 6))), (d 7, .inl (cA, 6, .inl (P 7))), (d 8, .inl (cA, 7, .inl (P 8))), (d 9, .inl (cA, 7, .inl (P 9))), (d 10, .inl (cA, 7, .inl (P 10))), (b, .inr (2, [.int (S 0 0), .ref (g 1), .ref (g 2), .ref (g 3), .ref (g 4), .ref (g 5), .ref (g 6), .int (S 0 1), .int (S 0 2), .int (S 0 3), .int (S 0 4), .int (S 0 5), .int (S 0 6), .int (S 0 7), .ref (g 7)])), (g 1, .inl (cA, 6, .inl (S 1))), (g 2, .inl (cA, 6, .inl (S 2))), (g 3, .inl (cA, 6, .inl (S 3))), (g 4, .inl (cA, 6, .inl (S 4))), (g 5, .inl (cA, 6, .inl (S 5))), (g 6, .inl (cA, 6, .inl (S 6))), (g 7, .inl (cA, 36, .inl (S 7)))] H := hP
          have hD : va_D A [(a, .inr (0, [.ref b, .ref (d 0), .ref (d 1), .ref (d 2), .ref (d 3), .ref (d 4), .ref (d 5), .ref (d 6), .ref (d 7), .ref (d 8), .ref (d 9), .ref (d 10)])), (d 0, .inl (cA, 6, .inl (upd (P 0) k.toNatClampNeg h))), (d 1, .inl (cA, 6, .inl (upd (P 1) k.toNatClampNeg q))), (d 2, .inl (cA, 6, .inl (upd (P 2) k.toNatClampNeg f_10))), (d 3, .inl (cA, 6, .inl (upd (P 3) k.toNatClampNeg f_13))), (d 4, .inl (cA, 6, .inl (P 4))), (d 5, .inl (cA, 6, .inl (P 5))), (d 6, .inl (cA, 6, .inl (P 6))), (d 7, .inl (cA, 6, .inl (P 7))), (d 8, .inl (cA, 7, .inl (P 8))), (d 9, .inl (cA, 7, .inl (P 9))), (d 10, .inl (cA, 7, .inl (P 10))), (b, .inr (2, [.int (S 0 0), .ref (g 1), .ref (g 2), .ref (g 3), .ref (g 4), .ref (g 5), .ref (g 6), .int (S 0 1), .int (S 0 2), .int (S 0 3), .int (S 0 4), .int (S 0 5), .int (S 0 6), .int (S 0 7), .ref (g 7)])), (g 1, .inl (cA, 6, .inl (S 1))), (g 2, .inl (cA, 6, .inl (S 2))), (g 3, .inl (cA, 6, .inl (S 3))), (g 4, .inl (cA, 6, .inl (S 4))), (g 5, .inl (cA, 6, .inl (S 5))), (g 6, .inl (cA, 6, .inl (S 6))), (g 7, .inl (cA, 36, .inl (S 7)))] := hD
          refine lv_aload_n hx hb d_Plan_put_100 rfl (lv_at hl 0 rfl) ?_
          refine lv_iload_n hx hb d_Plan_put_101 rfl (lv_at hl 1 rfl) ?_
          refine lv_aload_n hx hb d_Plan_put_102 rfl (lv_at hl 0 rfl) ?_
          refine lv_iload_n hx hb d_Plan_put_103 rfl (lv_at hl 3 rfl) ?_
          refine lv_iload_n hx hb d_Plan_put_104 rfl (lv_at hl 1 rfl) ?_
          refine hr_callV (C := R_Plan) (T := T_Plan) (N := 12) (As := [.int q, .int k]) (rest := [.int k, .ref a]) ⟨hx, hb, hml, hown, hts⟩ (k_Plan_latestOn l D cA cZ cL a d b g S (tb [upd (P 0) k.toNatClampNeg h, upd (P 1) k.toNatClampNeg q, upd (P 2) k.toNatClampNeg f_10, upd (P 3) k.toNatClampNeg f_13, P 4, P 5, P 6, P 7, P 8, P 9, P 10]) q k hk) (bv_V 2 hts mb_247 (hts _ mb_4) (hts _ mb_244) (hts _ mb_246) (hts _ mbp_1) (by decide +kernel) ⟨Nat.le_of_ble_eq_true rfl, Nat.le_of_ble_eq_true rfl⟩) hK hZ hP [0, 1, 2, 3, 4, 5, 6, 7, 8, 9, 10, 11, 12, 13, 14, 15, 16, 17, 18, 19] rfl 0 0 rfl rfl rfl hl.1 rfl (lv_room (Nat.le_of_ble_eq_true rfl)) d_Plan_put_105 ⟨Nat.zero_le _, Nat.zero_le _⟩ ?_
          refine lv_topi (fun f_14 ef_14 => ?_)
          refine hw_callVv (C := R_Plan) (T := T_Plan) (N := 12) (wr := []) (As := [.int k, .int f_14]) (rest := []) ⟨hx, hb, hml, hown, hts⟩ (k_Plan_castStep l D cA cZ cL a d b g S (tb [upd (P 0) k.toNatClampNeg h, upd (P 1) k.toNatClampNeg q, upd (P 2) k.toNatClampNeg f_10, upd (P 3) k.toNatClampNeg f_13, P 4, P 5, P 6, P 7, P 8, P 9, P 10]) k f_14 hG (fun j => (in_upd hp hh j : vp_in (upd (P 0) k.toNatClampNeg h j) 6)) hk (by rw [ef_14]; exact latest_in hk)) (bv_V 2 hts mb_251 (hts _ mb_4) (hts _ mb_248) (hts _ mb_250) (hts _ mbp_2) (by decide +kernel) ⟨Nat.le_of_ble_eq_true rfl, Nat.le_of_ble_eq_true rfl⟩) hK hZ hP hD hS hA [0, 1, 2, 3, 4, 5, 6, 7, 8, 9, 10, 11, 12, 13, 14, 15, 16, 17, 18, 19] [] rfl rfl (by decide) (by decide) (by decide) 0 0 rfl rfl rfl hl.1 rfl (lv_room (Nat.le_of_ble_eq_true rfl)) d_Plan_put_108 ⟨Nat.zero_le _, Nat.zero_le _⟩ (fun H locs hP hD hS => ?_)
          have hP : va_P D cls [(a, .inr (0, [.ref b, .ref (d 0), .ref (d 1), .ref (d 2), .ref (d 3), .ref (d 4), .ref (d 5), .ref (d 6), .ref (d 7), .ref (d 8), .ref (d 9), .ref (d 10)])), (d 0, .inl (cA, 6, .inl ((r_Plan_castStep S (tb [upd (P 0) k.toNatClampNeg h, upd (P 1) k.toNatClampNeg q, upd (P 2) k.toNatClampNeg f_10, upd (P 3) k.toNatClampNeg f_13, P 4, P 5, P 6, P 7, P 8, P 9, P 10]) k f_14) 0))), (d 1, .inl (cA, 6, .inl ((r_Plan_castStep S (tb [upd (P 0) k.toNatClampNeg h, upd (P 1) k.toNatClampNeg q, upd (P 2) k.toNatClampNeg f_10, upd (P 3) k.toNatClampNeg f_13, P 4, P 5, P 6, P 7, P 8, P 9, P 10]) k f_14) 1))), (d 2, .inl (cA, 6, .inl ((r_Plan_castStep S (tb [upd (P 0) k.toNatClampNeg h, upd (P 1) k.toNatClampNeg q, upd (P 2) k.toNatClampNeg f_10, upd (P 3) k.toNatClampNeg f_13, P 4, P 5, P 6, P 7, P 8, P 9, P 10]) k f_14) 2))), (d 3, .inl (cA, 6, .inl ((r_Plan_castStep S (tb [upd (P 0) k.toNatClampNeg h, upd (P 1) k.toNatClampNeg q, upd (P 2) k.toNatClampNeg f_10, upd (P 3) k.toNatClampNeg f_13, P 4, P 5, P 6, P 7, P 8, P 9, P 10]) k f_14) 3))), (d 4, .inl (cA, 6, .inl ((r_Plan_castStep S (tb [upd (P 0) k.toNatClampNeg h, upd (P 1) k.toNatClampNeg q, upd (P 2) k.toNatClampNeg f_10, upd (P 3) k.toNatClampNeg f_13, P 4, P 5, P 6, P 7, P 8, P 9, P 10]) k f_14) 4))), (d 5, .inl (cA, 6, .inl ((r_Plan_castStep S (tb [upd (P 0) k.toNatClampNeg h, upd (P 1) k.toNatClampNeg q, upd (P 2) k.toNatClampNeg f_10, upd (P 3) k.toNatClampNeg f_13, P 4, P 5, P 6, P 7, P 8, P 9, P 10]) k f_14) 5))), (d 6, .inl (cA, 6, .inl ((r_Plan_castStep S (tb [upd (P 0) k.toNatClampNeg h, upd (P 1) k.toNatClampNeg q, upd (P 2) k.toNatClampNeg f_10, upd (P 3) k.toNatClampNeg f_13, P 4, P 5, P 6, P 7, P 8, P 9, P 10]) k f_14) 6))), (d 7, .inl (cA, 6, .inl ((r_Plan_castStep S (tb [upd (P 0) k.toNatClampNeg h, upd (P 1) k.toNatClampNeg q, upd (P 2) k.toNatClampNeg f_10, upd (P 3) k.toNatClampNeg f_13, P 4, P 5, P 6, P 7, P 8, P 9, P 10]) k f_14) 7))), (d 8, .inl (cA, 7, .inl ((r_Plan_castStep S (tb [upd (P 0) k.toNatClampNeg h, upd (P 1) k.toNatClampNeg q, upd (P 2) k.toNatClampNeg f_10, upd (P 3) k.toNatClampNeg f_13, P 4, P 5, P 6, P 7, P 8, P 9, P 10]) k f_14) 8))), (d 9, .inl (cA, 7, .inl ((r_Plan_castStep S (tb [upd (P 0) k.toNatClampNeg h, upd (P 1) k.toNatClampNeg q, upd (P 2) k.toNatClampNeg f_10, upd (P 3) k.toNatClampNeg f_13, P 4, P 5, P 6, P 7, P 8, P 9, P 10]) k f_14) 9))), (d 10, .inl (cA, 7, .inl ((r_Plan_castStep S (tb [upd (P 0) k.toNatClampNeg h, upd (P 1) k.toNatClampNeg q, upd (P 2) k.toNatClampNeg f_10, upd (P 3) k.toNatClampNeg f_13, P 4, P 5, P 6, P 7, P 8, P 9, P 10]) k f_14) 10))), (b, .inr (2, [.int (S 0 0), .ref (g 1), .ref (g 2), .ref (g 3), .ref (g 4), .ref (g 5), .ref (g 6), .int (S 0 1), .int (S 0 2), .int (S 0 3), .int (S 0 4), .int (S 0 5), .int (S 0 6), .int (S 0 7), .ref (g 7)])), (g 1, .inl (cA, 6, .inl (S 1))), (g 2, .inl (cA, 6, .inl (S 2))), (g 3, .inl (cA, 6, .inl (S 3))), (g 4, .inl (cA, 6, .inl (S 4))), (g 5, .inl (cA, 6, .inl (S 5))), (g 6, .inl (cA, 6, .inl (S 6))), (g 7, .inl (cA, 36, .inl (S 7)))] H := hP
          have hD : va_D A [(a, .inr (0, [.ref b, .ref (d 0), .ref (d 1), .ref (d 2), .ref (d 3), .ref (d 4), .ref (d 5), .ref (d 6), .ref (d 7), .ref (d 8), .ref (d 9), .ref (d 10)])), (d 0, .inl (cA, 6, .inl ((r_Plan_castStep S (tb [upd (P 0) k.toNatClampNeg h, upd (P 1) k.toNatClampNeg q, upd (P 2) k.toNatClampNeg f_10, upd (P 3) k.toNatClampNeg f_13, P 4, P 5, P 6, P 7, P 8, P 9, P 10]) k f_14) 0))), (d 1, .inl (cA, 6, .inl ((r_Plan_castStep S (tb [upd (P 0) k.toNatClampNeg h, upd (P 1) k.toNatClampNeg q, upd (P 2) k.toNatClampNeg f_10, upd (P 3) k.toNatClampNeg f_13, P 4, P 5, P 6, P 7, P 8, P 9, P 10]) k f_14) 1))), (d 2, .inl (cA, 6, .inl ((r_Plan_castStep S (tb [upd (P 0) k.toNatClampNeg h, upd (P 1) k.toNatClampNeg q, upd (P 2) k.toNatClampNeg f_10, upd (P 3) k.toNatClampNeg f_13, P 4, P 5, P 6, P 7, P 8, P 9, P 10]) k f_14) 2))), (d 3, .inl (cA, 6, .inl ((r_Plan_castStep S (tb [upd (P 0) k.toNatClampNeg h, upd (P 1) k.toNatClampNeg q, upd (P 2) k.toNatClampNeg f_10, upd (P 3) k.toNatClampNeg f_13, P 4, P 5, P 6, P 7, P 8, P 9, P 10]) k f_14) 3))), (d 4, .inl (cA, 6, .inl ((r_Plan_castStep S (tb [upd (P 0) k.toNatClampNeg h, upd (P 1) k.toNatClampNeg q, upd (P 2) k.toNatClampNeg f_10, upd (P 3) k.toNatClampNeg f_13, P 4, P 5, P 6, P 7, P 8, P 9, P 10]) k f_14) 4))), (d 5, .inl (cA, 6, .inl ((r_Plan_castStep S (tb [upd (P 0) k.toNatClampNeg h, upd (P 1) k.toNatClampNeg q, upd (P 2) k.toNatClampNeg f_10, upd (P 3) k.toNatClampNeg f_13, P 4, P 5, P 6, P 7, P 8, P 9, P 10]) k f_14) 5))), (d 6, .inl (cA, 6, .inl ((r_Plan_castStep S (tb [upd (P 0) k.toNatClampNeg h, upd (P 1) k.toNatClampNeg q, upd (P 2) k.toNatClampNeg f_10, upd (P 3) k.toNatClampNeg f_13, P 4, P 5, P 6, P 7, P 8, P 9, P 10]) k f_14) 6))), (d 7, .inl (cA, 6, .inl ((r_Plan_castStep S (tb [upd (P 0) k.toNatClampNeg h, upd (P 1) k.toNatClampNeg q, upd (P 2) k.toNatClampNeg f_10, upd (P 3) k.toNatClampNeg f_13, P 4, P 5, P 6, P 7, P 8, P 9, P 10]) k f_14) 7))), (d 8, .inl (cA, 7, .inl ((r_Plan_castStep S (tb [upd (P 0) k.toNatClampNeg h, upd (P 1) k.toNatClampNeg q, upd (P 2) k.toNatClampNeg f_10, upd (P 3) k.toNatClampNeg f_13, P 4, P 5, P 6, P 7, P 8, P 9, P 10]) k f_14) 8))), (d 9, .inl (cA, 7, .inl ((r_Plan_castStep S (tb [upd (P 0) k.toNatClampNeg h, upd (P 1) k.toNatClampNeg q, upd (P 2) k.toNatClampNeg f_10, upd (P 3) k.toNatClampNeg f_13, P 4, P 5, P 6, P 7, P 8, P 9, P 10]) k f_14) 9))), (d 10, .inl (cA, 7, .inl ((r_Plan_castStep S (tb [upd (P 0) k.toNatClampNeg h, upd (P 1) k.toNatClampNeg q, upd (P 2) k.toNatClampNeg f_10, upd (P 3) k.toNatClampNeg f_13, P 4, P 5, P 6, P 7, P 8, P 9, P 10]) k f_14) 10))), (b, .inr (2, [.int (S 0 0), .ref (g 1), .ref (g 2), .ref (g 3), .ref (g 4), .ref (g 5), .ref (g 6), .int (S 0 1), .int (S 0 2), .int (S 0 3), .int (S 0 4), .int (S 0 5), .int (S 0 6), .int (S 0 7), .ref (g 7)])), (g 1, .inl (cA, 6, .inl (S 1))), (g 2, .inl (cA, 6, .inl (S 2))), (g 3, .inl (cA, 6, .inl (S 3))), (g 4, .inl (cA, 6, .inl (S 4))), (g 5, .inl (cA, 6, .inl (S 5))), (g 6, .inl (cA, 6, .inl (S 6))), (g 7, .inl (cA, 36, .inl (S 7)))] := hD
          refine lv_aload_n hx hb d_Plan_put_111 rfl (lv_at hl 0 rfl) ?_
          refine va_get (D := D) (ci := 0) (v := .ref (d 4)) (C := R_Plan) (T := T_Plan) (N := 12) hx hb hts i_Plan hown hK hP 0 rfl rfl 5 (by decide) (hts _ mb_120) (fun _ h9 => h9) rfl d_Plan_put_112 ?_
          refine lv_iload_n hx hb d_Plan_put_115 rfl (lv_at hl 1 rfl) ?_
          refine va_iald hx hb hK hP 5 0 rfl rfl hk d_Plan_put_116 ?_
          refine lv_topi (fun f_15 ef_15 => ?_)
          refine lv_aload_n hx hb d_Plan_put_117 rfl (lv_at hl 0 rfl) ?_
          refine va_get (D := D) (ci := 0) (v := .ref (d 3)) (C := R_Plan) (T := T_Plan) (N := 12) hx hb hts i_Plan hown hK hP 0 rfl rfl 4 (by decide) (hts _ mb_118) (fun _ h9 => h9) rfl d_Plan_put_118 ?_
          refine lv_iload_n hx hb d_Plan_put_121 rfl (lv_at hl 1 rfl) ?_
          refine va_iald hx hb hK hP 4 0 rfl rfl hk d_Plan_put_122 ?_
          refine lv_topi (fun f_16 ef_16 => ?_)
          refine lv_isub hx hb d_Plan_put_123 ?_
          refine lv_topi (fun f_17 ef_17 => ?_)
          refine lv_aload_n hx hb d_Plan_put_124 rfl (lv_at hl 0 rfl) ?_
          refine va_get (D := D) (ci := 0) (v := .ref b) (C := R_Plan) (T := T_Plan) (N := 12) hx hb hts i_Plan hown hK hP 0 rfl rfl 0 (by decide) (hts _ mb_111) (fun _ h9 => h9) rfl d_Plan_put_125 ?_
          refine va_get (D := D) (ci := 2) (v := .int (S 0 1)) (C := R_Shop) (T := T_Shop) (N := 15) hx hb hts i_Shop hown hK hP 12 rfl rfl 7 (by decide) (hts _ mb_45) (fun _ h9 => h9) rfl d_Plan_put_128 ?_
          refine lv_icmp_gt (tgt := 138) hx hb d_Plan_put_131 (by decide) (fun c_18 => ?_) (fun c_18 => ?_)
          · skip
            refine lv_iconst (v := 0) hx hb d_Plan_put_138 (by decide) ?_
            have e9 : r_Plan_put S P k h q = (0, (r_Plan_castStep S (tb [upd (P 0) k.toNatClampNeg h, upd (P 1) k.toNatClampNeg q, upd (P 2) k.toNatClampNeg f_10, upd (P 3) k.toNatClampNeg f_13, P 4, P 5, P 6, P 7, P 8, P 9, P 10]) k f_14)) := by
              subst ef_1 ef_3 ef_4 ef_6 ef_9 ef_10 ef_11 ef_12 ef_13 ef_14 ef_15 ef_16 ef_17; unfold r_Plan_put; simp only [if_neg c_2, if_neg c_5, if_neg c_7, if_neg c_8, if_pos c_18]
            exact W.zret (v := 0) hx hb hr rfl (fun t ht hW => ⟨⟨_, (), rfl, (by rw [e9]), (by rw [e9, ht]; exact hP.sub [0, 1, 2, 3, 4, 5, 6, 7, 8, 9, 10, 11, 12, 13, 14, 15, 16, 17, 18, 19] rfl), (by rw [e9]; exact hD.sub [0, 1, 2, 3, 4, 5, 6, 7, 8, 9, 10, 11, 12, 13, 14, 15, 16, 17, 18, 19] (by decide) rfl)⟩, hS.F ht⟩) hS.2.2 d_Plan_put_139
          · skip
            refine lv_iconst (v := 1) hx hb d_Plan_put_134 (by decide) ?_
            refine lv_goto (tgt := 139) hx hb d_Plan_put_135 (by decide) ?_
            have e9 : r_Plan_put S P k h q = (1, (r_Plan_castStep S (tb [upd (P 0) k.toNatClampNeg h, upd (P 1) k.toNatClampNeg q, upd (P 2) k.toNatClampNeg f_10, upd (P 3) k.toNatClampNeg f_13, P 4, P 5, P 6, P 7, P 8, P 9, P 10]) k f_14)) := by
              subst ef_1 ef_3 ef_4 ef_6 ef_9 ef_10 ef_11 ef_12 ef_13 ef_14 ef_15 ef_16 ef_17; unfold r_Plan_put; simp only [if_neg c_2, if_neg c_5, if_neg c_7, if_neg c_8, if_neg c_18]
            exact W.zret (v := 1) hx hb hr rfl (fun t ht hW => ⟨⟨_, (), rfl, (by rw [e9]), (by rw [e9, ht]; exact hP.sub [0, 1, 2, 3, 4, 5, 6, 7, 8, 9, 10, 11, 12, 13, 14, 15, 16, 17, 18, 19] rfl), (by rw [e9]; exact hD.sub [0, 1, 2, 3, 4, 5, 6, 7, 8, 9, 10, 11, 12, 13, 14, 15, 16, 17, 18, 19] (by decide) rfl)⟩, hS.F ht⟩) hS.2.2 d_Plan_put_139
        · skip
          refine lv_iconst (v := 0) hx hb d_Plan_put_65 (by decide) ?_
          refine lv_goto (tgt := 77) hx hb d_Plan_put_66 (by decide) ?_
          refine va_iast hx hb hK hP hD hS 3 0 rfl rfl hk d_Plan_put_77 (fun H locs hP hD hS => ?_)
          have hP : va_P D cls [(a, .inr (0, [.ref b, .ref (d 0), .ref (d 1), .ref (d 2), .ref (d 3), .ref (d 4), .ref (d 5), .ref (d 6), .ref (d 7), .ref (d 8), .ref (d 9), .ref (d 10)])), (d 0, .inl (cA, 6, .inl (upd (P 0) k.toNatClampNeg h))), (d 1, .inl (cA, 6, .inl (upd (P 1) k.toNatClampNeg q))), (d 2, .inl (cA, 6, .inl (upd (P 2) k.toNatClampNeg 0))), (d 3, .inl (cA, 6, .inl (P 3))), (d 4, .inl (cA, 6, .inl (P 4))), (d 5, .inl (cA, 6, .inl (P 5))), (d 6, .inl (cA, 6, .inl (P 6))), (d 7, .inl (cA, 6, .inl (P 7))), (d 8, .inl (cA, 7, .inl (P 8))), (d 9, .inl (cA, 7, .inl (P 9))), (d 10, .inl (cA, 7, .inl (P 10))), (b, .inr (2, [.int (S 0 0), .ref (g 1), .ref (g 2), .ref (g 3), .ref (g 4), .ref (g 5), .ref (g 6), .int (S 0 1), .int (S 0 2), .int (S 0 3), .int (S 0 4), .int (S 0 5), .int (S 0 6), .int (S 0 7), .ref (g 7)])), (g 1, .inl (cA, 6, .inl (S 1))), (g 2, .inl (cA, 6, .inl (S 2))), (g 3, .inl (cA, 6, .inl (S 3))), (g 4, .inl (cA, 6, .inl (S 4))), (g 5, .inl (cA, 6, .inl (S 5))), (g 6, .inl (cA, 6, .inl (S 6))), (g 7, .inl (cA, 36, .inl (S 7)))] H := hP
          have hD : va_D A [(a, .inr (0, [.ref b, .ref (d 0), .ref (d 1), .ref (d 2), .ref (d 3), .ref (d 4), .ref (d 5), .ref (d 6), .ref (d 7), .ref (d 8), .ref (d 9), .ref (d 10)])), (d 0, .inl (cA, 6, .inl (upd (P 0) k.toNatClampNeg h))), (d 1, .inl (cA, 6, .inl (upd (P 1) k.toNatClampNeg q))), (d 2, .inl (cA, 6, .inl (upd (P 2) k.toNatClampNeg 0))), (d 3, .inl (cA, 6, .inl (P 3))), (d 4, .inl (cA, 6, .inl (P 4))), (d 5, .inl (cA, 6, .inl (P 5))), (d 6, .inl (cA, 6, .inl (P 6))), (d 7, .inl (cA, 6, .inl (P 7))), (d 8, .inl (cA, 7, .inl (P 8))), (d 9, .inl (cA, 7, .inl (P 9))), (d 10, .inl (cA, 7, .inl (P 10))), (b, .inr (2, [.int (S 0 0), .ref (g 1), .ref (g 2), .ref (g 3), .ref (g 4), .ref (g 5), .ref (g 6), .int (S 0 1), .int (S 0 2), .int (S 0 3), .int (S 0 4), .int (S 0 5), .int (S 0 6), .int (S 0 7), .ref (g 7)])), (g 1, .inl (cA, 6, .inl (S 1))), (g 2, .inl (cA, 6, .inl (S 2))), (g 3, .inl (cA, 6, .inl (S 3))), (g 4, .inl (cA, 6, .inl (S 4))), (g 5, .inl (cA, 6, .inl (S 5))), (g 6, .inl (cA, 6, .inl (S 6))), (g 7, .inl (cA, 36, .inl (S 7)))] := hD
          refine lv_aload_n hx hb d_Plan_put_78 rfl (lv_at hl 0 rfl) ?_
          refine va_get (D := D) (ci := 0) (v := .ref (d 3)) (C := R_Plan) (T := T_Plan) (N := 12) hx hb hts i_Plan hown hK hP 0 rfl rfl 4 (by decide) (hts _ mb_118) (fun _ h9 => h9) rfl d_Plan_put_79 ?_
          refine lv_iload_n hx hb d_Plan_put_82 rfl (lv_at hl 1 rfl) ?_
          refine lv_aload_n hx hb d_Plan_put_83 rfl (lv_at hl 0 rfl) ?_
          refine va_get (D := D) (ci := 0) (v := .ref (d 2)) (C := R_Plan) (T := T_Plan) (N := 12) hx hb hts i_Plan hown hK hP 0 rfl rfl 3 (by decide) (hts _ mb_116) (fun _ h9 => h9) rfl d_Plan_put_84 ?_
          refine lv_iload_n hx hb d_Plan_put_87 rfl (lv_at hl 1 rfl) ?_
          refine va_iald hx hb hK hP 3 0 rfl rfl hk d_Plan_put_88 ?_
          refine lv_topi (fun f_19 ef_19 => ?_)
          refine lv_aload_n hx hb d_Plan_put_89 rfl (lv_at hl 0 rfl) ?_
          refine va_get (D := D) (ci := 0) (v := .ref b) (C := R_Plan) (T := T_Plan) (N := 12) hx hb hts i_Plan hown hK hP 0 rfl rfl 0 (by decide) (hts _ mb_111) (fun _ h9 => h9) rfl d_Plan_put_90 ?_
          refine va_get (D := D) (ci := 2) (v := .ref (g 3)) (C := R_Shop) (T := T_Shop) (N := 15) hx hb hts i_Shop hown hK hP 12 rfl rfl 3 (by decide) (hts _ mb_36) (fun _ h9 => h9) rfl d_Plan_put_93 ?_
          refine lv_iload_n hx hb d_Plan_put_96 rfl (lv_at hl 2 rfl) ?_
          refine va_iald hx hb hK hP 15 0 rfl rfl hh d_Plan_put_97 ?_
          refine lv_topi (fun f_20 ef_20 => ?_)
          refine lv_iadd hx hb d_Plan_put_98 ?_
          refine lv_topi (fun f_21 ef_21 => ?_)
          refine va_iast hx hb hK hP hD hS 4 0 rfl rfl hk d_Plan_put_99 (fun H locs hP hD hS => ?_)
          have hP : va_P D cls [(a, .inr (0, [.ref b, .ref (d 0), .ref (d 1), .ref (d 2), .ref (d 3), .ref (d 4), .ref (d 5), .ref (d 6), .ref (d 7), .ref (d 8), .ref (d 9), .ref (d 10)])), (d 0, .inl (cA, 6, .inl (upd (P 0) k.toNatClampNeg h))), (d 1, .inl (cA, 6, .inl (upd (P 1) k.toNatClampNeg q))), (d 2, .inl (cA, 6, .inl (upd (P 2) k.toNatClampNeg 0))), (d 3, .inl (cA, 6, .inl (upd (P 3) k.toNatClampNeg f_21))), (d 4, .inl (cA, 6, .inl (P 4))), (d 5, .inl (cA, 6, .inl (P 5))), (d 6, .inl (cA, 6, .inl (P 6))), (d 7, .inl (cA, 6, .inl (P 7))), (d 8, .inl (cA, 7, .inl (P 8))), (d 9, .inl (cA, 7, .inl (P 9))), (d 10, .inl (cA, 7, .inl (P 10))), (b, .inr (2, [.int (S 0 0), .ref (g 1), .ref (g 2), .ref (g 3), .ref (g 4), .ref (g 5), .ref (g 6), .int (S 0 1), .int (S 0 2), .int (S 0 3), .int (S 0 4), .int (S 0 5), .int (S 0 6), .int (S 0 7), .ref (g 7)])), (g 1, .inl (cA, 6, .inl (S 1))), (g 2, .inl (cA, 6, .inl (S 2))), (g 3, .inl (cA, 6, .inl (S 3))), (g 4, .inl (cA, 6, .inl (S 4))), (g 5, .inl (cA, 6, .inl (S 5))), (g 6, .inl (cA, 6, .inl (S 6))), (g 7, .inl (cA, 36, .inl (S 7)))] H := hP
          have hD : va_D A [(a, .inr (0, [.ref b, .ref (d 0), .ref (d 1), .ref (d 2), .ref (d 3), .ref (d 4), .ref (d 5), .ref (d 6), .ref (d 7), .ref (d 8), .ref (d 9), .ref (d 10)])), (d 0, .inl (cA, 6, .inl (upd (P 0) k.toNatClampNeg h))), (d 1, .inl (cA, 6, .inl (upd (P 1) k.toNatClampNeg q))), (d 2, .inl (cA, 6, .inl (upd (P 2) k.toNatClampNeg 0))), (d 3, .inl (cA, 6, .inl (upd (P 3) k.toNatClampNeg f_21))), (d 4, .inl (cA, 6, .inl (P 4))), (d 5, .inl (cA, 6, .inl (P 5))), (d 6, .inl (cA, 6, .inl (P 6))), (d 7, .inl (cA, 6, .inl (P 7))), (d 8, .inl (cA, 7, .inl (P 8))), (d 9, .inl (cA, 7, .inl (P 9))), (d 10, .inl (cA, 7, .inl (P 10))), (b, .inr (2, [.int (S 0 0), .ref (g 1), .ref (g 2), .ref (g 3), .ref (g 4), .ref (g 5), .ref (g 6), .int (S 0 1), .int (S 0 2), .int (S 0 3), .int (S 0 4), .int (S 0 5), .int (S 0 6), .int (S 0 7), .ref (g 7)])), (g 1, .inl (cA, 6, .inl (S 1))), (g 2, .inl (cA, 6, .inl (S 2))), (g 3, .inl (cA, 6, .inl (S 3))), (g 4, .inl (cA, 6, .inl (S 4))), (g 5, .inl (cA, 6, .inl (S 5))), (g 6, .inl (cA, 6, .inl (S 6))), (g 7, .inl (cA, 36, .inl (S 7)))] := hD
          refine lv_aload_n hx hb d_Plan_put_100 rfl (lv_at hl 0 rfl) ?_
          refine lv_iload_n hx hb d_Plan_put_101 rfl (lv_at hl 1 rfl) ?_
          refine lv_aload_n hx hb d_Plan_put_102 rfl (lv_at hl 0 rfl) ?_
          refine lv_iload_n hx hb d_Plan_put_103 rfl (lv_at hl 3 rfl) ?_
          refine lv_iload_n hx hb d_Plan_put_104 rfl (lv_at hl 1 rfl) ?_
          refine hr_callV (C := R_Plan) (T := T_Plan) (N := 12) (As := [.int q, .int k]) (rest := [.int k, .ref a]) ⟨hx, hb, hml, hown, hts⟩ (k_Plan_latestOn l D cA cZ cL a d b g S (tb [upd (P 0) k.toNatClampNeg h, upd (P 1) k.toNatClampNeg q, upd (P 2) k.toNatClampNeg 0, upd (P 3) k.toNatClampNeg f_21, P 4, P 5, P 6, P 7, P 8, P 9, P 10]) q k hk) (bv_V 2 hts mb_247 (hts _ mb_4) (hts _ mb_244) (hts _ mb_246) (hts _ mbp_1) (by decide +kernel) ⟨Nat.le_of_ble_eq_true rfl, Nat.le_of_ble_eq_true rfl⟩) hK hZ hP [0, 1, 2, 3, 4, 5, 6, 7, 8, 9, 10, 11, 12, 13, 14, 15, 16, 17, 18, 19] rfl 0 0 rfl rfl rfl hl.1 rfl (lv_room (Nat.le_of_ble_eq_true rfl)) d_Plan_put_105 ⟨Nat.zero_le _, Nat.zero_le _⟩ ?_
          refine lv_topi (fun f_22 ef_22 => ?_)
          refine hw_callVv (C := R_Plan) (T := T_Plan) (N := 12) (wr := []) (As := [.int k, .int f_22]) (rest := []) ⟨hx, hb, hml, hown, hts⟩ (k_Plan_castStep l D cA cZ cL a d b g S (tb [upd (P 0) k.toNatClampNeg h, upd (P 1) k.toNatClampNeg q, upd (P 2) k.toNatClampNeg 0, upd (P 3) k.toNatClampNeg f_21, P 4, P 5, P 6, P 7, P 8, P 9, P 10]) k f_22 hG (fun j => (in_upd hp hh j : vp_in (upd (P 0) k.toNatClampNeg h j) 6)) hk (by rw [ef_22]; exact latest_in hk)) (bv_V 2 hts mb_251 (hts _ mb_4) (hts _ mb_248) (hts _ mb_250) (hts _ mbp_2) (by decide +kernel) ⟨Nat.le_of_ble_eq_true rfl, Nat.le_of_ble_eq_true rfl⟩) hK hZ hP hD hS hA [0, 1, 2, 3, 4, 5, 6, 7, 8, 9, 10, 11, 12, 13, 14, 15, 16, 17, 18, 19] [] rfl rfl (by decide) (by decide) (by decide) 0 0 rfl rfl rfl hl.1 rfl (lv_room (Nat.le_of_ble_eq_true rfl)) d_Plan_put_108 ⟨Nat.zero_le _, Nat.zero_le _⟩ (fun H locs hP hD hS => ?_)
          have hP : va_P D cls [(a, .inr (0, [.ref b, .ref (d 0), .ref (d 1), .ref (d 2), .ref (d 3), .ref (d 4), .ref (d 5), .ref (d 6), .ref (d 7), .ref (d 8), .ref (d 9), .ref (d 10)])), (d 0, .inl (cA, 6, .inl ((r_Plan_castStep S (tb [upd (P 0) k.toNatClampNeg h, upd (P 1) k.toNatClampNeg q, upd (P 2) k.toNatClampNeg 0, upd (P 3) k.toNatClampNeg f_21, P 4, P 5, P 6, P 7, P 8, P 9, P 10]) k f_22) 0))), (d 1, .inl (cA, 6, .inl ((r_Plan_castStep S (tb [upd (P 0) k.toNatClampNeg h, upd (P 1) k.toNatClampNeg q, upd (P 2) k.toNatClampNeg 0, upd (P 3) k.toNatClampNeg f_21, P 4, P 5, P 6, P 7, P 8, P 9, P 10]) k f_22) 1))), (d 2, .inl (cA, 6, .inl ((r_Plan_castStep S (tb [upd (P 0) k.toNatClampNeg h, upd (P 1) k.toNatClampNeg q, upd (P 2) k.toNatClampNeg 0, upd (P 3) k.toNatClampNeg f_21, P 4, P 5, P 6, P 7, P 8, P 9, P 10]) k f_22) 2))), (d 3, .inl (cA, 6, .inl ((r_Plan_castStep S (tb [upd (P 0) k.toNatClampNeg h, upd (P 1) k.toNatClampNeg q, upd (P 2) k.toNatClampNeg 0, upd (P 3) k.toNatClampNeg f_21, P 4, P 5, P 6, P 7, P 8, P 9, P 10]) k f_22) 3))), (d 4, .inl (cA, 6, .inl ((r_Plan_castStep S (tb [upd (P 0) k.toNatClampNeg h, upd (P 1) k.toNatClampNeg q, upd (P 2) k.toNatClampNeg 0, upd (P 3) k.toNatClampNeg f_21, P 4, P 5, P 6, P 7, P 8, P 9, P 10]) k f_22) 4))), (d 5, .inl (cA, 6, .inl ((r_Plan_castStep S (tb [upd (P 0) k.toNatClampNeg h, upd (P 1) k.toNatClampNeg q, upd (P 2) k.toNatClampNeg 0, upd (P 3) k.toNatClampNeg f_21, P 4, P 5, P 6, P 7, P 8, P 9, P 10]) k f_22) 5))), (d 6, .inl (cA, 6, .inl ((r_Plan_castStep S (tb [upd (P 0) k.toNatClampNeg h, upd (P 1) k.toNatClampNeg q, upd (P 2) k.toNatClampNeg 0, upd (P 3) k.toNatClampNeg f_21, P 4, P 5, P 6, P 7, P 8, P 9, P 10]) k f_22) 6))), (d 7, .inl (cA, 6, .inl ((r_Plan_castStep S (tb [upd (P 0) k.toNatClampNeg h, upd (P 1) k.toNatClampNeg q, upd (P 2) k.toNatClampNeg 0, upd (P 3) k.toNatClampNeg f_21, P 4, P 5, P 6, P 7, P 8, P 9, P 10]) k f_22) 7))), (d 8, .inl (cA, 7, .inl ((r_Plan_castStep S (tb [upd (P 0) k.toNatClampNeg h, upd (P 1) k.toNatClampNeg q, upd (P 2) k.toNatClampNeg 0, upd (P 3) k.toNatClampNeg f_21, P 4, P 5, P 6, P 7, P 8, P 9, P 10]) k f_22) 8))), (d 9, .inl (cA, 7, .inl ((r_Plan_castStep S (tb [upd (P 0) k.toNatClampNeg h, upd (P 1) k.toNatClampNeg q, upd (P 2) k.toNatClampNeg 0, upd (P 3) k.toNatClampNeg f_21, P 4, P 5, P 6, P 7, P 8, P 9, P 10]) k f_22) 9))), (d 10, .inl (cA, 7, .inl ((r_Plan_castStep S (tb [upd (P 0) k.toNatClampNeg h, upd (P 1) k.toNatClampNeg q, upd (P 2) k.toNatClampNeg 0, upd (P 3) k.toNatClampNeg f_21, P 4, P 5, P 6, P 7, P 8, P 9, P 10]) k f_22) 10))), (b, .inr (2, [.int (S 0 0), .ref (g 1), .ref (g 2), .ref (g 3), .ref (g 4), .ref (g 5), .ref (g 6), .int (S 0 1), .int (S 0 2), .int (S 0 3), .int (S 0 4), .int (S 0 5), .int (S 0 6), .int (S 0 7), .ref (g 7)])), (g 1, .inl (cA, 6, .inl (S 1))), (g 2, .inl (cA, 6, .inl (S 2))), (g 3, .inl (cA, 6, .inl (S 3))), (g 4, .inl (cA, 6, .inl (S 4))), (g 5, .inl (cA, 6, .inl (S 5))), (g 6, .inl (cA, 6, .inl (S 6))), (g 7, .inl (cA, 36, .inl (S 7)))] H := hP
          have hD : va_D A [(a, .inr (0, [.ref b, .ref (d 0), .ref (d 1), .ref (d 2), .ref (d 3), .ref (d 4), .ref (d 5), .ref (d 6), .ref (d 7), .ref (d 8), .ref (d 9), .ref (d 10)])), (d 0, .inl (cA, 6, .inl ((r_Plan_castStep S (tb [upd (P 0) k.toNatClampNeg h, upd (P 1) k.toNatClampNeg q, upd (P 2) k.toNatClampNeg 0, upd (P 3) k.toNatClampNeg f_21, P 4, P 5, P 6, P 7, P 8, P 9, P 10]) k f_22) 0))), (d 1, .inl (cA, 6, .inl ((r_Plan_castStep S (tb [upd (P 0) k.toNatClampNeg h, upd (P 1) k.toNatClampNeg q, upd (P 2) k.toNatClampNeg 0, upd (P 3) k.toNatClampNeg f_21, P 4, P 5, P 6, P 7, P 8, P 9, P 10]) k f_22) 1))), (d 2, .inl (cA, 6, .inl ((r_Plan_castStep S (tb [upd (P 0) k.toNatClampNeg h, upd (P 1) k.toNatClampNeg q, upd (P 2) k.toNatClampNeg 0, upd (P 3) k.toNatClampNeg f_21, P 4, P 5, P 6, P 7, P 8, P 9, P 10]) k f_22) 2))), (d 3, .inl (cA, 6, .inl ((r_Plan_castStep S (tb [upd (P 0) k.toNatClampNeg h, upd (P 1) k.toNatClampNeg q, upd (P 2) k.toNatClampNeg 0, upd (P 3) k.toNatClampNeg f_21, P 4, P 5, P 6, P 7, P 8, P 9, P 10]) k f_22) 3))), (d 4, .inl (cA, 6, .inl ((r_Plan_castStep S (tb [upd (P 0) k.toNatClampNeg h, upd (P 1) k.toNatClampNeg q, upd (P 2) k.toNatClampNeg 0, upd (P 3) k.toNatClampNeg f_21, P 4, P 5, P 6, P 7, P 8, P 9, P 10]) k f_22) 4))), (d 5, .inl (cA, 6, .inl ((r_Plan_castStep S (tb [upd (P 0) k.toNatClampNeg h, upd (P 1) k.toNatClampNeg q, upd (P 2) k.toNatClampNeg 0, upd (P 3) k.toNatClampNeg f_21, P 4, P 5, P 6, P 7, P 8, P 9, P 10]) k f_22) 5))), (d 6, .inl (cA, 6, .inl ((r_Plan_castStep S (tb [upd (P 0) k.toNatClampNeg h, upd (P 1) k.toNatClampNeg q, upd (P 2) k.toNatClampNeg 0, upd (P 3) k.toNatClampNeg f_21, P 4, P 5, P 6, P 7, P 8, P 9, P 10]) k f_22) 6))), (d 7, .inl (cA, 6, .inl ((r_Plan_castStep S (tb [upd (P 0) k.toNatClampNeg h, upd (P 1) k.toNatClampNeg q, upd (P 2) k.toNatClampNeg 0, upd (P 3) k.toNatClampNeg f_21, P 4, P 5, P 6, P 7, P 8, P 9, P 10]) k f_22) 7))), (d 8, .inl (cA, 7, .inl ((r_Plan_castStep S (tb [upd (P 0) k.toNatClampNeg h, upd (P 1) k.toNatClampNeg q, upd (P 2) k.toNatClampNeg 0, upd (P 3) k.toNatClampNeg f_21, P 4, P 5, P 6, P 7, P 8, P 9, P 10]) k f_22) 8))), (d 9, .inl (cA, 7, .inl ((r_Plan_castStep S (tb [upd (P 0) k.toNatClampNeg h, upd (P 1) k.toNatClampNeg q, upd (P 2) k.toNatClampNeg 0, upd (P 3) k.toNatClampNeg f_21, P 4, P 5, P 6, P 7, P 8, P 9, P 10]) k f_22) 9))), (d 10, .inl (cA, 7, .inl ((r_Plan_castStep S (tb [upd (P 0) k.toNatClampNeg h, upd (P 1) k.toNatClampNeg q, upd (P 2) k.toNatClampNeg 0, upd (P 3) k.toNatClampNeg f_21, P 4, P 5, P 6, P 7, P 8, P 9, P 10]) k f_22) 10))), (b, .inr (2, [.int (S 0 0), .ref (g 1), .ref (g 2), .ref (g 3), .ref (g 4), .ref (g 5), .ref (g 6), .int (S 0 1), .int (S 0 2), .int (S 0 3), .int (S 0 4), .int (S 0 5), .int (S 0 6), .int (S 0 7), .ref (g 7)])), (g 1, .inl (cA, 6, .inl (S 1))), (g 2, .inl (cA, 6, .inl (S 2))), (g 3, .inl (cA, 6, .inl (S 3))), (g 4, .inl (cA, 6, .inl (S 4))), (g 5, .inl (cA, 6, .inl (S 5))), (g 6, .inl (cA, 6, .inl (S 6))), (g 7, .inl (cA, 36, .inl (S 7)))] := hD
          refine lv_aload_n hx hb d_Plan_put_111 rfl (lv_at hl 0 rfl) ?_
          refine va_get (D := D) (ci := 0) (v := .ref (d 4)) (C := R_Plan) (T := T_Plan) (N := 12) hx hb hts i_Plan hown hK hP 0 rfl rfl 5 (by decide) (hts _ mb_120) (fun _ h9 => h9) rfl d_Plan_put_112 ?_
          refine lv_iload_n hx hb d_Plan_put_115 rfl (lv_at hl 1 rfl) ?_
          refine va_iald hx hb hK hP 5 0 rfl rfl hk d_Plan_put_116 ?_
          refine lv_topi (fun f_23 ef_23 => ?_)
          refine lv_aload_n hx hb d_Plan_put_117 rfl (lv_at hl 0 rfl) ?_
          refine va_get (D := D) (ci := 0) (v := .ref (d 3)) (C := R_Plan) (T := T_Plan) (N := 12) hx hb hts i_Plan hown hK hP 0 rfl rfl 4 (by decide) (hts _ mb_118) (fun _ h9 => h9) rfl d_Plan_put_118 ?_
          refine lv_iload_n hx hb d_Plan_put_121 rfl (lv_at hl 1 rfl) ?_
          refine va_iald hx hb hK hP 4 0 rfl rfl hk d_Plan_put_122 ?_
          refine lv_topi (fun f_24 ef_24 => ?_)
          refine lv_isub hx hb d_Plan_put_123 ?_
          refine lv_topi (fun f_25 ef_25 => ?_)
          refine lv_aload_n hx hb d_Plan_put_124 rfl (lv_at hl 0 rfl) ?_
          refine va_get (D := D) (ci := 0) (v := .ref b) (C := R_Plan) (T := T_Plan) (N := 12) hx hb hts i_Plan hown hK hP 0 rfl rfl 0 (by decide) (hts _ mb_111) (fun _ h9 => h9) rfl d_Plan_put_125 ?_
          refine va_get (D := D) (ci := 2) (v := .int (S 0 1)) (C := R_Shop) (T := T_Shop) (N := 15) hx hb hts i_Shop hown hK hP 12 rfl rfl 7 (by decide) (hts _ mb_45) (fun _ h9 => h9) rfl d_Plan_put_128 ?_
          refine lv_icmp_gt (tgt := 138) hx hb d_Plan_put_131 (by decide) (fun c_26 => ?_) (fun c_26 => ?_)
          · skip
            refine lv_iconst (v := 0) hx hb d_Plan_put_138 (by decide) ?_
            have e9 : r_Plan_put S P k h q = (0, (r_Plan_castStep S (tb [upd (P 0) k.toNatClampNeg h, upd (P 1) k.toNatClampNeg q, upd (P 2) k.toNatClampNeg 0, upd (P 3) k.toNatClampNeg f_21, P 4, P 5, P 6, P 7, P 8, P 9, P 10]) k f_22)) := by
              subst ef_1 ef_3 ef_4 ef_6 ef_19 ef_20 ef_21 ef_22 ef_23 ef_24 ef_25; unfold r_Plan_put; simp only [if_neg c_2, if_neg c_5, if_neg c_7, if_pos c_8, if_pos c_26]
            exact W.zret (v := 0) hx hb hr rfl (fun t ht hW => ⟨⟨_, (), rfl, (by rw [e9]), (by rw [e9, ht]; exact hP.sub [0, 1, 2, 3, 4, 5, 6, 7, 8, 9, 10, 11, 12, 13, 14, 15, 16, 17, 18, 19] rfl), (by rw [e9]; exact hD.sub [0, 1, 2, 3, 4, 5, 6, 7, 8, 9, 10, 11, 12, 13, 14, 15, 16, 17, 18, 19] (by decide) rfl)⟩, hS.F ht⟩) hS.2.2 d_Plan_put_139
          · skip
            refine lv_iconst (v := 1) hx hb d_Plan_put_134 (by decide) ?_
            refine lv_goto (tgt := 139) hx hb d_Plan_put_135 (by decide) ?_
            have e9 : r_Plan_put S P k h q = (1, (r_Plan_castStep S (tb [upd (P 0) k.toNatClampNeg h, upd (P 1) k.toNatClampNeg q, upd (P 2) k.toNatClampNeg 0, upd (P 3) k.toNatClampNeg f_21, P 4, P 5, P 6, P 7, P 8, P 9, P 10]) k f_22)) := by
              subst ef_1 ef_3 ef_4 ef_6 ef_19 ef_20 ef_21 ef_22 ef_23 ef_24 ef_25; unfold r_Plan_put; simp only [if_neg c_2, if_neg c_5, if_neg c_7, if_pos c_8, if_neg c_26]
            exact W.zret (v := 1) hx hb hr rfl (fun t ht hW => ⟨⟨_, (), rfl, (by rw [e9]), (by rw [e9, ht]; exact hP.sub [0, 1, 2, 3, 4, 5, 6, 7, 8, 9, 10, 11, 12, 13, 14, 15, 16, 17, 18, 19] rfl), (by rw [e9]; exact hD.sub [0, 1, 2, 3, 4, 5, 6, 7, 8, 9, 10, 11, 12, 13, 14, 15, 16, 17, 18, 19] (by decide) rfl)⟩, hS.F ht⟩) hS.2.2 d_Plan_put_139
      · skip
        refine lv_iconst (v := 0) hx hb d_Plan_put_40 (by decide) ?_
        have e9 : r_Plan_put S P k h q = (0, P) := by
          subst ef_1 ef_3 ef_4 ef_6; unfold r_Plan_put; simp only [if_neg c_2, if_neg c_5, if_pos c_7]
        exact W.zret (v := 0) hx hb hr rfl (fun t ht hW => ⟨⟨_, (), rfl, (by rw [e9]), (by rw [e9, ht]; exact hP.sub [0, 1, 2, 3, 4, 5, 6, 7, 8, 9, 10, 11, 12, 13, 14, 15, 16, 17, 18, 19] rfl), (by rw [e9]; exact hD.sub [0, 1, 2, 3, 4, 5, 6, 7, 8, 9, 10, 11, 12, 13, 14, 15, 16, 17, 18, 19] (by decide) rfl)⟩, hS.F ht⟩) hS.2.2 d_Plan_put_41
    · skip
      refine lv_iconst (v := 0) hx hb d_Plan_put_26 (by decide) ?_
      have e9 : r_Plan_put S P k h q = (0, P) := by
        subst ef_1 ef_3 ef_4; unfold r_Plan_put; simp only [if_neg c_2, if_pos c_5]
      exact W.zret (v := 0) hx hb hr rfl (fun t ht hW => ⟨⟨_, (), rfl, (by rw [e9]), (by rw [e9, ht]; exact hP.sub [0, 1, 2, 3, 4, 5, 6, 7, 8, 9, 10, 11, 12, 13, 14, 15, 16, 17, 18, 19] rfl), (by rw [e9]; exact hD.sub [0, 1, 2, 3, 4, 5, 6, 7, 8, 9, 10, 11, 12, 13, 14, 15, 16, 17, 18, 19] (by decide) rfl)⟩, hS.F ht⟩) hS.2.2 d_Plan_put_27
