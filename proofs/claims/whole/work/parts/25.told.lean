/-! the model: what workOut and takePlan leave alone; told, step -/
def MFr (M M2 : Nat → Nat → Int32) : Prop := M2 1 = M 1 ∧ M2 2 = M 2 ∧ M2 3 = M 3 ∧ M2 4 = M 4 ∧ M2 5 = M 5 ∧ M2 6 = M 6 ∧ M2 7 = M 7 ∧ M2 8 = M 8 ∧ M2 9 = M 9 ∧ M2 0 0 = M 0 0 ∧ M2 0 1 = M 0 1 ∧ M2 0 2 = M 0 2 ∧ M2 0 3 = M 0 3 ∧ M2 0 4 = M 0 4 ∧ M2 0 5 = M 0 5 ∧ M2 0 6 = M 0 6 ∧ M2 0 7 = M 0 7 ∧ M2 0 8 = M 0 8 ∧ M2 0 9 = M 0 9 ∧ M2 0 10 = M 0 10 ∧ M2 0 11 = M 0 11 ∧ M2 0 12 = M 0 12
theorem MFr.rf (M : Nat → Nat → Int32) : MFr M M := ⟨rfl, rfl, rfl, rfl, rfl, rfl, rfl, rfl, rfl, rfl, rfl, rfl, rfl, rfl, rfl, rfl, rfl, rfl, rfl, rfl, rfl, rfl⟩
theorem MFr.of {M T X : Nat → Nat → Int32} (h : MFr T X) (e : MFr M T) : MFr M X := by
  unfold MFr at *
  obtain ⟨a0, a1, a2, a3, a4, a5, a6, a7, a8, a9, a10, a11, a12, a13, a14, a15, a16, a17, a18, a19, a20, a21⟩ := h
  obtain ⟨b0, b1, b2, b3, b4, b5, b6, b7, b8, b9, b10, b11, b12, b13, b14, b15, b16, b17, b18, b19, b20, b21⟩ := e
  exact ⟨a0.trans b0, a1.trans b1, a2.trans b2, a3.trans b3, a4.trans b4, a5.trans b5, a6.trans b6, a7.trans b7, a8.trans b8, a9.trans b9, a10.trans b10, a11.trans b11, a12.trans b12, a13.trans b13, a14.trans b14, a15.trans b15, a16.trans b16, a17.trans b17, a18.trans b18, a19.trans b19, a20.trans b20, a21.trans b21⟩
theorem MFr.ite {M : Nat → Nat → Int32} {c : Prop} [Decidable c] {A B : Int32 × (Nat → Nat → Int32)} (h1 : MFr M A.2) (h2 : MFr M B.2) : MFr M (if c then A else B).2 := by
  split
  · exact h1
  · exact h2
theorem work_q (q : Int32) : ∀ (n : Nat) (k j h : Int32) (M : Nat → Nat → Int32), MFr M (q_Mod_workOut q n k j h M).2 := by
  intro n
  induction n with
  | zero => intro k j h M; exact MFr.rf M
  | succ n ih =>
    intro k j h M
    rw [q_Mod_workOut]
    refine MFr.ite (MFr.rf M) ?_
    refine MFr.ite ?_ ?_
    · refine MFr.of (ih _ _ _ _) ?_
      exact ⟨rfl, rfl, rfl, rfl, rfl, rfl, rfl, rfl, rfl, rfl, rfl, rfl, rfl, rfl, rfl, rfl, rfl, rfl, rfl, rfl, rfl, rfl⟩
    · refine MFr.of (ih _ _ _ _) ?_
      exact ⟨rfl, rfl, rfl, rfl, rfl, rfl, rfl, rfl, rfl, rfl, rfl, rfl, rfl, rfl, rfl, rfl, rfl, rfl, rfl, rfl, rfl, rfl⟩
theorem work_fr (M : Nat → Nat → Int32) (q : Int32) : MFr M (r_Mod_workOut M q).2 := by
  unfold r_Mod_workOut
  refine MFr.of (work_q _ _ _ _ _ _) ?_
  exact ⟨rfl, rfl, rfl, rfl, rfl, rfl, rfl, rfl, rfl, rfl, rfl, rfl, rfl, rfl, rfl, rfl, rfl, rfl, rfl, rfl, rfl, rfl⟩
theorem take_q : ∀ (n : Nat) (h : Int32) (M : Nat → Nat → Int32), ((0 ≤ h.toInt ∧ h.toInt ≤ 6 ∧ 7 < h.toInt + (n : Int)) ∧ (∃ n : Nat, n ≤ 6 ∧ M 0 1 = nI n) ∧ (∀ j : Nat, (j : Int) < (M 0 1).toInt → vp_in (M 8 j) 12) ∧ (∀ j : Nat, (j : Int) < h.toInt → vp_in (M 9 j) 12)) → (q_Mod_takePlan n h M) 0 1 = M 0 1 ∧ ∀ j : Nat, (j : Int) < (M 0 1).toInt → vp_in ((q_Mod_takePlan n h M) 9 j) 12 := by
  intro n
  induction n with
  | zero => intro h M hi; exact absurd hi (by rintro ⟨h, -⟩; omega)
  | succ n ih =>
    intro h M hi
    rw [q_Mod_takePlan]
    dsimp only
    split
    · rename_i hc
      have hf := work_fr M (M 0 1)
      refine ⟨hf.2.2.2.2.2.2.2.2.2.2.1, fun j hj => ?_⟩
      rw [hf.2.2.2.2.2.2.2.2.1]
      exact hi.2.2.2 j (Int.lt_of_lt_of_le hj (Int32.le_iff_toInt_le.mp hc))
    · rename_i hc
      have hlt := lt_of hc
      have hh6 : vp_in h 6 := in_lt hi.2.1 hi.1.1 hc
      exact ih (h + 1) _ ⟨by rw [toInt_s hh6 (by decide)]; have h8 := vp_in_iff.mp hh6; omega, hi.2.1, hi.2.2.1, upd_lt hi.2.2.2 hh6 (hi.2.2.1 _ (cl_lt hh6 hlt)) rfl⟩
theorem take_now {M : Nat → Nat → Int32} (hN : ∃ n : Nat, n ≤ 6 ∧ M 0 1 = nI n) (hpl : ∀ j : Nat, (j : Int) < (M 0 1).toInt → vp_in (M 8 j) 12) : (r_Mod_takePlan M) 0 1 = M 0 1 ∧ ∀ j : Nat, (j : Int) < (M 0 1).toInt → vp_in ((r_Mod_takePlan M) 9 j) 12 :=
  take_q 8 0 M ⟨by decide, hN, hpl, fun j hj => absurd hj (by show ¬ (j : Int) < 0; omega)⟩
theorem step_ix {N O k q f1 f2 : Int32} (hN : ∃ n : Nat, n ≤ 6 ∧ N = nI n) (e1 : f1 = if O = 0 then 0 else if r_Mod_in k 0 (N - 1) = 0 then 1 else if r_Mod_in q 0 6 = 0 then 1 else 0) (e2 : f2 = if O = 0 then 1 else 0) (h1 : f1 = 0) (h2 : f2 = 0) : vp_in k 6 ∧ k.toInt < N.toInt := by
  by_cases c0 : O = 0
  · rw [if_pos c0] at e2; rw [e2] at h2; exact absurd h2 (by decide)
  · rw [if_neg c0] at e1
    by_cases c1 : r_Mod_in k 0 (N - 1) = 0
    · rw [if_pos c1] at e1; rw [e1] at h1; exact absurd h1 (by decide)
    · refine ⟨in_wh hN c1, ?_⟩
      obtain ⟨n, hn, rfl⟩ := hN
      have e3 : (nI n - 1).toInt = (n : Int) - 1 := (by decide : ∀ n, n ≤ 6 → (nI n - 1).toInt = (n : Int) - 1) n hn
      have e4 : (nI n).toInt = (n : Int) := nI_toInt (by omega)
      unfold r_Mod_in at c1
      split at c1
      · exact absurd rfl c1
      · split at c1
        · exact absurd rfl c1
        · rename_i a1 a2
          rw [Int32.lt_iff_toInt_lt] at a2
          omega
def r_Mod_told (M : Nat → Nat → Int32) (h : Int32) : Int32 × (Nat → Nat → Int32) := let f_3 : Int32 := (let f_1 : Int32 := r_Mod_in h 0 3; if f_1 = 0 then (1) else (0)); let f_5 : Int32 := (if M 0 12 = 0 then (1) else (0)); let f_6 : Int32 := (r_Mod_throwing M f_3 f_5 0).1; if f_6 = 0 then (if h = 0 then (let f_11 : Int32 := r_Mod_costNow (r_Mod_takePlan ((r_Mod_throwing M f_3 f_5 0).2)); (f_11, (r_Mod_takePlan ((r_Mod_throwing M f_3 f_5 0).2)))) else (if h = 1 then (((r_Mod_takePlan ((r_Mod_throwing M f_3 f_5 0).2)) 0 14, (r_Mod_takePlan ((r_Mod_throwing M f_3 f_5 0).2)))) else (if h = 2 then (((r_Mod_takePlan ((r_Mod_throwing M f_3 f_5 0).2)) 0 15, (r_Mod_takePlan ((r_Mod_throwing M f_3 f_5 0).2)))) else (((r_Mod_takePlan ((r_Mod_throwing M f_3 f_5 0).2)) 0 13, (r_Mod_takePlan ((r_Mod_throwing M f_3 f_5 0).2))))))) else ((0, (r_Mod_throwing M f_3 f_5 0).2))
set_option maxHeartbeats 4000000 in
set_option maxRecDepth 100000 in
theorem k_Mod_told (l : Launch) (D : va_G) (cA cZ cL : ClassId) (a : Nat) (d : Nat → Nat) (M : Nat → Nat → Int32) (h : Int32) (hN : ∃ n : Nat, n ≤ 6 ∧ M 0 1 = nI n) (hG : ∀ j, vp_in (M 1 j) 6) (hpl : ∀ j : Nat, (j : Int) < (M 0 1).toInt → vp_in (M 8 j) 12) : MetI l y_Mod_told (Cond.code y_Mod_told c_Mod_told 2 (some .int) :: base) ({ frames := 3, cells := 0, slots := 0, locals := 75 } : Room) D cls (tys3 cA cZ cL) ([.ref a, .int h]) (wMod cA cZ a d M) (r_Mod_told M h).1 (wMod cA cZ a d ((r_Mod_told M h).2)) := by
  intro sz
  refine Met.ofW (cc := c_Mod_told) (maxL := 2) (ret := (some .int)) (by decide) rfl ?_
  intro p e s m args below meth c s₁ B hml hv
  obtain ⟨rfl, hsz, hP, hK, hZ, hD0⟩ := hv
  have hx := B.exec
  have hb := B.bytes
  have hr := B.returns
  have hts0 := atoms_spec (ws := (Cond.code y_Mod_told c_Mod_told 2 (some .int) :: base)) B.pre
  have hts : ∀ w ∈ base, w.before _ s = true := fun w h => hts0 w (List.mem_cons_of_mem _ h)
  have hown : s.vm.findClass R_Mod = some m.cls := findClass_of_methodNamed B.named
  have hlocks := B.notSynchronized
  have hP : va_P D cls [(a, .inr (4, [.int (M 0 0), .int (M 0 1), .ref (d 1), .ref (d 2), .ref (d 3), .ref (d 4), .ref (d 5), .ref (d 6), .int (M 0 2), .int (M 0 3), .int (M 0 4), .int (M 0 5), .int (M 0 6), .int (M 0 7), .int (M 0 8), .ref (d 7), .int (M 0 9), .int (M 0 10), .int (M 0 11), .int (M 0 12), .ref (d 8), .ref (d 9), .ref (d 10), .ref (d 11), .ref (d 12), .ref (d 13), .int (M 0 13), .int (M 0 14), .int (M 0 15)])), (d 1, .inl (cA, 6, .inl (M 1))), (d 2, .inl (cA, 6, .inl (M 2))), (d 3, .inl (cA, 6, .inl (M 3))), (d 4, .inl (cA, 6, .inl (M 4))), (d 5, .inl (cA, 6, .inl (M 5))), (d 6, .inl (cA, 6, .inl (M 6))), (d 7, .inl (cA, 36, .inl (M 7))), (d 8, .inl (cA, 6, .inl (M 8))), (d 9, .inl (cA, 7, .inl (M 9))), (d 10, .inl (cA, 6, .inl (M 10))), (d 11, .inl (cA, 6, .inl (M 11))), (d 12, .inl (cA, 6, .inl (M 12))), (d 13, .inl (cZ, 6, .inl (M 13)))] s.heap := hP
  subst hsz
  have hD := hD0.self (sz := s.heap.size)
  generalize hAe : va_A (wMod cA cZ a d M) s.heap.size = A at hD ⊢
  have hA : ∀ q : Nat, s.heap.size ≤ q → A q := fun q h => by rw [← hAe]; exact Or.inr h
  have hS : va_S A s.heap s.heap [] := va_S.rf
  have hD : va_D A [(a, .inr (4, [.int (M 0 0), .int (M 0 1), .ref (d 1), .ref (d 2), .ref (d 3), .ref (d 4), .ref (d 5), .ref (d 6), .int (M 0 2), .int (M 0 3), .int (M 0 4), .int (M 0 5), .int (M 0 6), .int (M 0 7), .int (M 0 8), .ref (d 7), .int (M 0 9), .int (M 0 10), .int (M 0 11), .int (M 0 12), .ref (d 8), .ref (d 9), .ref (d 10), .ref (d 11), .ref (d 12), .ref (d 13), .int (M 0 13), .int (M 0 14), .int (M 0 15)])), (d 1, .inl (cA, 6, .inl (M 1))), (d 2, .inl (cA, 6, .inl (M 2))), (d 3, .inl (cA, 6, .inl (M 3))), (d 4, .inl (cA, 6, .inl (M 4))), (d 5, .inl (cA, 6, .inl (M 5))), (d 6, .inl (cA, 6, .inl (M 6))), (d 7, .inl (cA, 36, .inl (M 7))), (d 8, .inl (cA, 6, .inl (M 8))), (d 9, .inl (cA, 7, .inl (M 9))), (d 10, .inl (cA, 6, .inl (M 10))), (d 11, .inl (cA, 6, .inl (M 11))), (d 12, .inl (cA, 6, .inl (M 12))), (d 13, .inl (cZ, 6, .inl (M 13)))] := hD
  have hl := lv_entry ([.ref a, .int h]) (n := 2) (Nat.le_of_ble_eq_true rfl)
  rw [lg_entry_eq]
  generalize (lg_sl ([.ref a, .int h]) ++ List.replicate (2 - (lg_sl ([.ref a, .int h])).length) Slot.unset).toArray = ls at hl ⊢
  have hl : lv_has ls 2 [(0, .ref a), (1, .int h)] := hl
  refine lv_aload_n hx hb d_Mod_told_0 rfl (lv_at hl 0 rfl) ?_
  refine jn 15 [.ref a] 2 [(0, .ref a), (1, .int h)] (let f_1 : Int32 := r_Mod_in h 0 3; if f_1 = 0 then (1) else (0)) (fun f_3 ls ef_3 hl => ?_) (fun J => ?_)
  · skip
    refine jn 27 [.int f_3, .ref a] 2 [(0, .ref a), (1, .int h)] (if M 0 12 = 0 then (1) else (0)) (fun f_5 ls ef_5 hl => ?_) (fun J => ?_)
    · skip
      refine lv_iconst (v := 0) hx hb d_Mod_told_27 (by decide) ?_
      refine hw_callVi (C := R_Mod) (T := T_Mod) (N := 29) (wr := []) (As := [.int f_3, .int f_5, .int 0]) (rest := []) ⟨hx, hb, hml, hown, hts⟩ (k_Mod_throwing l D cA cZ cL a d M f_3 f_5 0 ) (bv_V 3 hts mb_626 (hts _ mb_5) (hts _ mb_623) (hts _ mb_625) (hts _ mbp_9) (by decide +kernel) ⟨Nat.le_of_ble_eq_true rfl, Nat.le_of_ble_eq_true rfl⟩) hK hZ hP hD hS hA [0, 1, 2, 3, 4, 5, 6, 7, 8, 9, 10, 11, 12, 13] [] rfl rfl (by decide) (by decide) (by decide) 0 4 rfl rfl rfl hl.1 rfl (lv_room (Nat.le_of_ble_eq_true rfl)) d_Mod_told_28 ⟨Nat.zero_le _, Nat.zero_le _⟩ (fun H locs hP hD hS => ?_)
      have hP : va_P D cls [(a, .inr (4, [.int ((r_Mod_throwing M f_3 f_5 0).2 0 0), .int ((r_Mod_throwing M f_3 f_5 0).2 0 1), .ref (d 1), .ref (d 2), .ref (d 3), .ref (d 4), .ref (d 5), .ref (d 6), .int ((r_Mod_throwing M f_3 f_5 0).2 0 2), .int ((r_Mod_throwing M f_3 f_5 0).2 0 3), .int ((r_Mod_throwing M f_3 f_5 0).2 0 4), .int ((r_Mod_throwing M f_3 f_5 0).2 0 5), .int ((r_Mod_throwing M f_3 f_5 0).2 0 6), .int ((r_Mod_throwing M f_3 f_5 0).2 0 7), .int ((r_Mod_throwing M f_3 f_5 0).2 0 8), .ref (d 7), .int ((r_Mod_throwing M f_3 f_5 0).2 0 9), .int ((r_Mod_throwing M f_3 f_5 0).2 0 10), .int ((r_Mod_throwing M f_3 f_5 0).2 0 11), .int ((r_Mod_throwing M f_3 f_5 0).2 0 12), .ref (d 8), .ref (d 9), .ref (d 10), .ref (d 11), .ref (d 12), .ref (d 13), .int ((r_Mod_throwing M f_3 f_5 0).2 0 13), .int ((r_Mod_throwing M f_3 f_5 0).2 0 14), .int ((r_Mod_throwing M f_3 f_5 0).2 0 15)])), (d 1, .inl (cA, 6, .inl ((r_Mod_throwing M f_3 f_5 0).2 1))), (d 2, .inl (cA, 6, .inl ((r_Mod_throwing M f_3 f_5 0).2 2))), (d 3, .inl (cA, 6, .inl ((r_Mod_throwing M f_3 f_5 0).2 3))), (d 4, .inl (cA, 6, .inl ((r_Mod_throwing M f_3 f_5 0).2 4))), (d 5, .inl (cA, 6, .inl ((r_Mod_throwing M f_3 f_5 0).2 5))), (d 6, .inl (cA, 6, .inl ((r_Mod_throwing M f_3 f_5 0).2 6))), (d 7, .inl (cA, 36, .inl ((r_Mod_throwing M f_3 f_5 0).2 7))), (d 8, .inl (cA, 6, .inl ((r_Mod_throwing M f_3 f_5 0).2 8))), (d 9, .inl (cA, 7, .inl ((r_Mod_throwing M f_3 f_5 0).2 9))), (d 10, .inl (cA, 6, .inl ((r_Mod_throwing M f_3 f_5 0).2 10))), (d 11, .inl (cA, 6, .inl ((r_Mod_throwing M f_3 f_5 0).2 11))), (d 12, .inl (cA, 6, .inl ((r_Mod_throwing M f_3 f_5 0).2 12))), (d 13, .inl (cZ, 6, .inl ((r_Mod_throwing M f_3 f_5 0).2 13)))] H := hP
      have hD : va_D A [(a, .inr (4, [.int ((r_Mod_throwing M f_3 f_5 0).2 0 0), .int ((r_Mod_throwing M f_3 f_5 0).2 0 1), .ref (d 1), .ref (d 2), .ref (d 3), .ref (d 4), .ref (d 5), .ref (d 6), .int ((r_Mod_throwing M f_3 f_5 0).2 0 2), .int ((r_Mod_throwing M f_3 f_5 0).2 0 3), .int ((r_Mod_throwing M f_3 f_5 0).2 0 4), .int ((r_Mod_throwing M f_3 f_5 0).2 0 5), .int ((r_Mod_throwing M f_3 f_5 0).2 0 6), .int ((r_Mod_throwing M f_3 f_5 0).2 0 7), .int ((r_Mod_throwing M f_3 f_5 0).2 0 8), .ref (d 7), .int ((r_Mod_throwing M f_3 f_5 0).2 0 9), .int ((r_Mod_throwing M f_3 f_5 0).2 0 10), .int ((r_Mod_throwing M f_3 f_5 0).2 0 11), .int ((r_Mod_throwing M f_3 f_5 0).2 0 12), .ref (d 8), .ref (d 9), .ref (d 10), .ref (d 11), .ref (d 12), .ref (d 13), .int ((r_Mod_throwing M f_3 f_5 0).2 0 13), .int ((r_Mod_throwing M f_3 f_5 0).2 0 14), .int ((r_Mod_throwing M f_3 f_5 0).2 0 15)])), (d 1, .inl (cA, 6, .inl ((r_Mod_throwing M f_3 f_5 0).2 1))), (d 2, .inl (cA, 6, .inl ((r_Mod_throwing M f_3 f_5 0).2 2))), (d 3, .inl (cA, 6, .inl ((r_Mod_throwing M f_3 f_5 0).2 3))), (d 4, .inl (cA, 6, .inl ((r_Mod_throwing M f_3 f_5 0).2 4))), (d 5, .inl (cA, 6, .inl ((r_Mod_throwing M f_3 f_5 0).2 5))), (d 6, .inl (cA, 6, .inl ((r_Mod_throwing M f_3 f_5 0).2 6))), (d 7, .inl (cA, 36, .inl ((r_Mod_throwing M f_3 f_5 0).2 7))), (d 8, .inl (cA, 6, .inl ((r_Mod_throwing M f_3 f_5 0).2 8))), (d 9, .inl (cA, 7, .inl ((r_Mod_throwing M f_3 f_5 0).2 9))), (d 10, .inl (cA, 6, .inl ((r_Mod_throwing M f_3 f_5 0).2 10))), (d 11, .inl (cA, 6, .inl ((r_Mod_throwing M f_3 f_5 0).2 11))), (d 12, .inl (cA, 6, .inl ((r_Mod_throwing M f_3 f_5 0).2 12))), (d 13, .inl (cZ, 6, .inl ((r_Mod_throwing M f_3 f_5 0).2 13)))] := hD
      refine lv_topi (fun f_6 ef_6 => ?_)
      refine lv_if_eq (tgt := 36) hx hb d_Mod_told_31 (by decide) (fun c_7 => ?_) (fun c_7 => ?_)
      · skip
        refine lv_aload_n hx hb d_Mod_told_36 rfl (lv_at hl 0 rfl) ?_
        refine hw_callVv (C := R_Mod) (T := T_Mod) (N := 29) (wr := []) (As := []) (rest := []) ⟨hx, hb, hml, hown, hts⟩ (k_Mod_takePlan l D cA cZ cL a d ((r_Mod_throwing M f_3 f_5 0).2)  (thr_N hN) (thr_G hG) (thr_pl hpl)) (bv_V 0 hts mb_675 (hts _ mb_5) (hts _ mb_672) (hts _ mb_674) (hts _ mbp_16) (by decide +kernel) ⟨Nat.le_of_ble_eq_true rfl, Nat.le_of_ble_eq_true rfl⟩) hK hZ hP hD hS hA [0, 1, 2, 3, 4, 5, 6, 7, 8, 9, 10, 11, 12, 13] [] rfl rfl (by decide) (by decide) (by decide) 0 4 rfl rfl rfl hl.1 rfl (lv_room (Nat.le_of_ble_eq_true rfl)) d_Mod_told_37 ⟨Nat.zero_le _, Nat.zero_le _⟩ (fun H locs hP hD hS => ?_)
        have hP : va_P D cls [(a, .inr (4, [.int ((r_Mod_takePlan ((r_Mod_throwing M f_3 f_5 0).2)) 0 0), .int ((r_Mod_takePlan ((r_Mod_throwing M f_3 f_5 0).2)) 0 1), .ref (d 1), .ref (d 2), .ref (d 3), .ref (d 4), .ref (d 5), .ref (d 6), .int ((r_Mod_takePlan ((r_Mod_throwing M f_3 f_5 0).2)) 0 2), .int ((r_Mod_takePlan ((r_Mod_throwing M f_3 f_5 0).2)) 0 3), .int ((r_Mod_takePlan ((r_Mod_throwing M f_3 f_5 0).2)) 0 4), .int ((r_Mod_takePlan ((r_Mod_throwing M f_3 f_5 0).2)) 0 5), .int ((r_Mod_takePlan ((r_Mod_throwing M f_3 f_5 0).2)) 0 6), .int ((r_Mod_takePlan ((r_Mod_throwing M f_3 f_5 0).2)) 0 7), .int ((r_Mod_takePlan ((r_Mod_throwing M f_3 f_5 0).2)) 0 8), .ref (d 7), .int ((r_Mod_takePlan ((r_Mod_throwing M f_3 f_5 0).2)) 0 9), .int ((r_Mod_takePlan ((r_Mod_throwing M f_3 f_5 0).2)) 0 10), .int ((r_Mod_takePlan ((r_Mod_throwing M f_3 f_5 0).2)) 0 11), .int ((r_Mod_takePlan ((r_Mod_throwing M f_3 f_5 0).2)) 0 12), .ref (d 8), .ref (d 9), .ref (d 10), .ref (d 11), .ref (d 12), .ref (d 13), .int ((r_Mod_takePlan ((r_Mod_throwing M f_3 f_5 0).2)) 0 13), .int ((r_Mod_takePlan ((r_Mod_throwing M f_3 f_5 0).2)) 0 14), .int ((r_Mod_takePlan ((r_Mod_throwing M f_3 f_5 0).2)) 0 15)])), (d 1, .inl (cA, 6, .inl ((r_Mod_takePlan ((r_Mod_throwing M f_3 f_5 0).2)) 1))), (d 2, .inl (cA, 6, .inl ((r_Mod_takePlan ((r_Mod_throwing M f_3 f_5 0).2)) 2))), (d 3, .inl (cA, 6, .inl ((r_Mod_takePlan ((r_Mod_throwing M f_3 f_5 0).2)) 3))), (d 4, .inl (cA, 6, .inl ((r_Mod_takePlan ((r_Mod_throwing M f_3 f_5 0).2)) 4))), (d 5, .inl (cA, 6, .inl ((r_Mod_takePlan ((r_Mod_throwing M f_3 f_5 0).2)) 5))), (d 6, .inl (cA, 6, .inl ((r_Mod_takePlan ((r_Mod_throwing M f_3 f_5 0).2)) 6))), (d 7, .inl (cA, 36, .inl ((r_Mod_takePlan ((r_Mod_throwing M f_3 f_5 0).2)) 7))), (d 8, .inl (cA, 6, .inl ((r_Mod_takePlan ((r_Mod_throwing M f_3 f_5 0).2)) 8))), (d 9, .inl (cA, 7, .inl ((r_Mod_takePlan ((r_Mod_throwing M f_3 f_5 0).2)) 9))), (d 10, .inl (cA, 6, .inl ((r_Mod_takePlan ((r_Mod_throwing M f_3 f_5 0).2)) 10))), (d 11, .inl (cA, 6, .inl ((r_Mod_takePlan ((r_Mod_throwing M f_3 f_5 0).2)) 11))), (d 12, .inl (cA, 6, .inl ((r_Mod_takePlan ((r_Mod_throwing M f_3 f_5 0).2)) 12))), (d 13, .inl (cZ, 6, .inl ((r_Mod_takePlan ((r_Mod_throwing M f_3 f_5 0).2)) 13)))] H := hP
        have hD : va_D A [(a, .inr (4, [.int ((r_Mod_takePlan ((r_Mod_throwing M f_3 f_5 0).2)) 0 0), .int ((r_Mod_takePlan ((r_Mod_throwing M f_3 f_5 0).2)) 0 1), .ref (d 1), .ref (d 2), .ref (d 3), .ref (d 4), .ref (d 5), .ref (d 6), .int ((r_Mod_takePlan ((r_Mod_throwing M f_3 f_5 0).2)) 0 2), .int ((r_Mod_takePlan ((r_Mod_throwing M f_3 f_5 0).2)) 0 3), .int ((r_Mod_takePlan ((r_Mod_throwing M f_3 f_5 0).2)) 0 4), .int ((r_Mod_takePlan ((r_Mod_throwing M f_3 f_5 0).2)) 0 5), .int ((r_Mod_takePlan ((r_Mod_throwing M f_3 f_5 0).2)) 0 6), .int ((r_Mod_takePlan ((r_Mod_throwing M f_3 f_5 0).2)) 0 7), .int ((r_Mod_takePlan ((r_Mod_throwing M f_3 f_5 0).2)) 0 8), .ref (d 7), .int ((r_Mod_takePlan ((r_Mod_throwing M f_3 f_5 0).2)) 0 9), .int ((r_Mod_takePlan ((r_Mod_throwing M f_3 f_5 0).2)) 0 10), .int ((r_Mod_takePlan ((r_Mod_throwing M f_3 f_5 0).2)) 0 11), .int ((r_Mod_takePlan ((r_Mod_throwing M f_3 f_5 0).2)) 0 12), .ref (d 8), .ref (d 9), .ref (d 10), .ref (d 11), .ref (d 12), .ref (d 13), .int ((r_Mod_takePlan ((r_Mod_throwing M f_3 f_5 0).2)) 0 13), .int ((r_Mod_takePlan ((r_Mod_throwing M f_3 f_5 0).2)) 0 14), .int ((r_Mod_takePlan ((r_Mod_throwing M f_3 f_5 0).2)) 0 15)])), (d 1, .inl (cA, 6, .inl ((r_Mod_takePlan ((r_Mod_throwing M f_3 f_5 0).2)) 1))), (d 2, .inl (cA, 6, .inl ((r_Mod_takePlan ((r_Mod_throwing M f_3 f_5 0).2)) 2))), (d 3, .inl (cA, 6, .inl ((r_Mod_takePlan ((r_Mod_throwing M f_3 f_5 0).2)) 3))), (d 4, .inl (cA, 6, .inl ((r_Mod_takePlan ((r_Mod_throwing M f_3 f_5 0).2)) 4))), (d 5, .inl (cA, 6, .inl ((r_Mod_takePlan ((r_Mod_throwing M f_3 f_5 0).2)) 5))), (d 6, .inl (cA, 6, .inl ((r_Mod_takePlan ((r_Mod_throwing M f_3 f_5 0).2)) 6))), (d 7, .inl (cA, 36, .inl ((r_Mod_takePlan ((r_Mod_throwing M f_3 f_5 0).2)) 7))), (d 8, .inl (cA, 6, .inl ((r_Mod_takePlan ((r_Mod_throwing M f_3 f_5 0).2)) 8))), (d 9, .inl (cA, 7, .inl ((r_Mod_takePlan ((r_Mod_throwing M f_3 f_5 0).2)) 9))), (d 10, .inl (cA, 6, .inl ((r_Mod_takePlan ((r_Mod_throwing M f_3 f_5 0).2)) 10))), (d 11, .inl (cA, 6, .inl ((r_Mod_takePlan ((r_Mod_throwing M f_3 f_5 0).2)) 11))), (d 12, .inl (cA, 6, .inl ((r_Mod_takePlan ((r_Mod_throwing M f_3 f_5 0).2)) 12))), (d 13, .inl (cZ, 6, .inl ((r_Mod_takePlan ((r_Mod_throwing M f_3 f_5 0).2)) 13)))] := hD
        refine lv_iload_n hx hb d_Mod_told_40 rfl (lv_at hl 1 rfl) ?_
        refine lv_if_ne (tgt := 51) hx hb d_Mod_told_41 (by decide) (fun c_8 => ?_) (fun c_8 => ?_)
        · skip
          refine lv_iload_n hx hb d_Mod_told_51 rfl (lv_at hl 1 rfl) ?_
          refine lv_iconst (v := 1) hx hb d_Mod_told_52 (by decide) ?_
          refine lv_icmp_ne (tgt := 63) hx hb d_Mod_told_53 (by decide) (fun c_9 => ?_) (fun c_9 => ?_)
          · skip
            refine lv_iload_n hx hb d_Mod_told_63 rfl (lv_at hl 1 rfl) ?_
            refine lv_iconst (v := 2) hx hb d_Mod_told_64 (by decide) ?_
            refine lv_icmp_ne (tgt := 75) hx hb d_Mod_told_65 (by decide) (fun c_10 => ?_) (fun c_10 => ?_)
            · skip
              refine lv_aload_n hx hb d_Mod_told_75 rfl (lv_at hl 0 rfl) ?_
              refine va_get (D := D) (ci := 4) (v := .int ((r_Mod_takePlan ((r_Mod_throwing M f_3 f_5 0).2)) 0 13)) (C := R_Mod) (T := T_Mod) (N := 29) hx hb hts i_Mod hown hK hP 0 rfl rfl 26 (by decide) (hts _ mb_549) (fun _ h9 => h9) rfl d_Mod_told_76 ?_
              have e9 : r_Mod_told M h = ((r_Mod_takePlan ((r_Mod_throwing M f_3 f_5 0).2)) 0 13, (r_Mod_takePlan ((r_Mod_throwing M f_3 f_5 0).2))) := by
                subst ef_3 ef_5 ef_6; unfold r_Mod_told; simp only [if_pos c_7, if_neg c_8, if_neg c_9, if_neg c_10]
              exact W.iret (v := ((r_Mod_takePlan ((r_Mod_throwing M f_3 f_5 0).2)) 0 13)) hx hb hr (fun t ht hW => ⟨⟨_, (), rfl, (by rw [e9]), (by rw [e9, ht]; try dsimp only; exact hP.sub [0, 1, 2, 3, 4, 5, 6, 7, 8, 9, 10, 11, 12, 13] rfl), (by rw [e9]; try dsimp only; exact hD.sub [0, 1, 2, 3, 4, 5, 6, 7, 8, 9, 10, 11, 12, 13] (by decide) rfl)⟩, hS.F ht⟩) hS.2.2 d_Mod_told_79
            · skip
              refine lv_aload_n hx hb d_Mod_told_68 rfl (lv_at hl 0 rfl) ?_
              refine va_get (D := D) (ci := 4) (v := .int ((r_Mod_takePlan ((r_Mod_throwing M f_3 f_5 0).2)) 0 15)) (C := R_Mod) (T := T_Mod) (N := 29) hx hb hts i_Mod hown hK hP 0 rfl rfl 28 (by decide) (hts _ mb_551) (fun _ h9 => h9) rfl d_Mod_told_69 ?_
              refine lv_goto (tgt := 79) hx hb d_Mod_told_72 (by decide) ?_
              have e9 : r_Mod_told M h = ((r_Mod_takePlan ((r_Mod_throwing M f_3 f_5 0).2)) 0 15, (r_Mod_takePlan ((r_Mod_throwing M f_3 f_5 0).2))) := by
                subst ef_3 ef_5 ef_6; unfold r_Mod_told; simp only [if_pos c_7, if_neg c_8, if_neg c_9, if_pos c_10]
              exact W.iret (v := ((r_Mod_takePlan ((r_Mod_throwing M f_3 f_5 0).2)) 0 15)) hx hb hr (fun t ht hW => ⟨⟨_, (), rfl, (by rw [e9]), (by rw [e9, ht]; try dsimp only; exact hP.sub [0, 1, 2, 3, 4, 5, 6, 7, 8, 9, 10, 11, 12, 13] rfl), (by rw [e9]; try dsimp only; exact hD.sub [0, 1, 2, 3, 4, 5, 6, 7, 8, 9, 10, 11, 12, 13] (by decide) rfl)⟩, hS.F ht⟩) hS.2.2 d_Mod_told_79
          · skip
            refine lv_aload_n hx hb d_Mod_told_56 rfl (lv_at hl 0 rfl) ?_
            refine va_get (D := D) (ci := 4) (v := .int ((r_Mod_takePlan ((r_Mod_throwing M f_3 f_5 0).2)) 0 14)) (C := R_Mod) (T := T_Mod) (N := 29) hx hb hts i_Mod hown hK hP 0 rfl rfl 27 (by decide) (hts _ mb_550) (fun _ h9 => h9) rfl d_Mod_told_57 ?_
            refine lv_goto (tgt := 79) hx hb d_Mod_told_60 (by decide) ?_
            have e9 : r_Mod_told M h = ((r_Mod_takePlan ((r_Mod_throwing M f_3 f_5 0).2)) 0 14, (r_Mod_takePlan ((r_Mod_throwing M f_3 f_5 0).2))) := by
              subst ef_3 ef_5 ef_6; unfold r_Mod_told; simp only [if_pos c_7, if_neg c_8, if_pos c_9]
            exact W.iret (v := ((r_Mod_takePlan ((r_Mod_throwing M f_3 f_5 0).2)) 0 14)) hx hb hr (fun t ht hW => ⟨⟨_, (), rfl, (by rw [e9]), (by rw [e9, ht]; try dsimp only; exact hP.sub [0, 1, 2, 3, 4, 5, 6, 7, 8, 9, 10, 11, 12, 13] rfl), (by rw [e9]; try dsimp only; exact hD.sub [0, 1, 2, 3, 4, 5, 6, 7, 8, 9, 10, 11, 12, 13] (by decide) rfl)⟩, hS.F ht⟩) hS.2.2 d_Mod_told_79
        · skip
          refine lv_aload_n hx hb d_Mod_told_44 rfl (lv_at hl 0 rfl) ?_
          refine hr_callV (C := R_Mod) (T := T_Mod) (N := 29) (As := []) (rest := []) ⟨hx, hb, hml, hown, hts⟩ (k_Mod_costNow l D cA cZ cL a d (r_Mod_takePlan ((r_Mod_throwing M f_3 f_5 0).2))  ) (bv_V 0 hts mb_671 (hts _ mb_5) (hts _ mb_668) (hts _ mb_670) (hts _ mbp_15) (by decide +kernel) ⟨Nat.le_of_ble_eq_true rfl, Nat.le_of_ble_eq_true rfl⟩) hK hZ hP [0, 1, 2, 3, 4, 5, 6, 7, 8, 9, 10, 11, 12, 13] rfl 0 4 rfl rfl rfl hl.1 rfl (lv_room (Nat.le_of_ble_eq_true rfl)) d_Mod_told_45 ⟨Nat.zero_le _, Nat.zero_le _⟩ ?_
          refine lv_topi (fun f_11 ef_11 => ?_)
          refine lv_goto (tgt := 79) hx hb d_Mod_told_48 (by decide) ?_
          have e9 : r_Mod_told M h = (f_11, (r_Mod_takePlan ((r_Mod_throwing M f_3 f_5 0).2))) := by
            subst ef_3 ef_5 ef_6 ef_11; unfold r_Mod_told; simp only [if_pos c_7, if_pos c_8]
          exact W.iret (v := f_11) hx hb hr (fun t ht hW => ⟨⟨_, (), rfl, (by rw [e9]), (by rw [e9, ht]; try dsimp only; exact hP.sub [0, 1, 2, 3, 4, 5, 6, 7, 8, 9, 10, 11, 12, 13] rfl), (by rw [e9]; try dsimp only; exact hD.sub [0, 1, 2, 3, 4, 5, 6, 7, 8, 9, 10, 11, 12, 13] (by decide) rfl)⟩, hS.F ht⟩) hS.2.2 d_Mod_told_79
      · skip
        refine lv_iconst (v := 0) hx hb d_Mod_told_34 (by decide) ?_
        have e9 : r_Mod_told M h = (0, (r_Mod_throwing M f_3 f_5 0).2) := by
          subst ef_3 ef_5 ef_6; unfold r_Mod_told; simp only [if_neg c_7]
        exact W.iret (v := 0) hx hb hr (fun t ht hW => ⟨⟨_, (), rfl, (by rw [e9]), (by rw [e9, ht]; try dsimp only; exact hP.sub [0, 1, 2, 3, 4, 5, 6, 7, 8, 9, 10, 11, 12, 13] rfl), (by rw [e9]; try dsimp only; exact hD.sub [0, 1, 2, 3, 4, 5, 6, 7, 8, 9, 10, 11, 12, 13] (by decide) rfl)⟩, hS.F ht⟩) hS.2.2 d_Mod_told_35
    · skip
      refine lv_aload_n hx hb d_Mod_told_15 rfl (lv_at hl 0 rfl) ?_
      refine va_get (D := D) (ci := 4) (v := .int (M 0 12)) (C := R_Mod) (T := T_Mod) (N := 29) hx hb hts i_Mod hown hK hP 0 rfl rfl 19 (by decide) (hts _ mb_542) (fun _ h9 => h9) rfl d_Mod_told_16 ?_
      refine lv_if_ne (tgt := 26) hx hb d_Mod_told_19 (by decide) (fun c_4 => ?_) (fun c_4 => ?_)
      · skip
        refine lv_iconst (v := 0) hx hb d_Mod_told_26 (by decide) ?_
        exact J _ _ (by simp only [if_neg c_4]) (lv_sub hl [0, 1] rfl)
      · skip
        refine lv_iconst (v := 1) hx hb d_Mod_told_22 (by decide) ?_
        refine lv_goto (tgt := 27) hx hb d_Mod_told_23 (by decide) ?_
        exact J _ _ (by simp only [if_pos c_4]) (lv_sub hl [0, 1] rfl)
  · skip
    refine lv_iload_n hx hb d_Mod_told_1 rfl (lv_at hl 1 rfl) ?_
    refine lv_iconst (v := 0) hx hb d_Mod_told_2 (by decide) ?_
    refine lv_iconst (v := 3) hx hb d_Mod_told_3 (by decide) ?_
    refine hr_callS (As := [.int h, .int 0, .int 3]) (rest := [.ref a]) ⟨hx, hb, hml, hown, hts⟩ (k_Mod_in l D cA cZ cL h 0 3) (bs_S 3 hts mb_622 (hts _ mb_5) (hts _ mb_620) (hts _ mb_621) (by decide +kernel) ⟨Nat.le_of_ble_eq_true rfl, Nat.le_of_ble_eq_true rfl⟩) hK hZ hP [] rfl rfl hl.1 rfl (lv_room (Nat.le_of_ble_eq_true rfl)) d_Mod_told_4 ⟨Nat.zero_le _, Nat.zero_le _⟩ ?_
    refine lv_topi (fun f_1 ef_1 => ?_)
    refine lv_if_ne (tgt := 14) hx hb d_Mod_told_7 (by decide) (fun c_2 => ?_) (fun c_2 => ?_)
    · skip
      refine lv_iconst (v := 0) hx hb d_Mod_told_14 (by decide) ?_
      exact J _ _ (by subst ef_1; simp only [if_neg c_2]) (lv_sub hl [0, 1] rfl)
    · skip
      refine lv_iconst (v := 1) hx hb d_Mod_told_10 (by decide) ?_
      refine lv_goto (tgt := 15) hx hb d_Mod_told_11 (by decide) ?_
      exact J _ _ (by subst ef_1; simp only [if_pos c_2]) (lv_sub hl [0, 1] rfl)
def r_Mod_step (M : Nat → Nat → Int32) (k q : Int32) : Int32 × (Nat → Nat → Int32) := let f_7 : Int32 := (if M 0 12 = 0 then (0) else (let f_2 : Int32 := (M 0 1) - 1; let f_3 : Int32 := r_Mod_in k 0 f_2; if f_3 = 0 then (1) else (let f_5 : Int32 := r_Mod_in q 0 6; if f_5 = 0 then (1) else (0)))); let f_9 : Int32 := (if M 0 12 = 0 then (1) else (0)); let f_10 : Int32 := (r_Mod_throwing M f_7 f_9 0).1; if f_10 = 0 then (let f_12 : Int32 := (r_Mod_takePlan ((r_Mod_throwing M f_7 f_9 0).2)) 9 k.toNatClampNeg; let f_13 : Int32 := f_12 / 2; if 2 ≤ q then (if q = 2 then (let f_24 : Int32 := (r_Mod_takePlan ((r_Mod_throwing M f_7 f_9 0).2)) 10 k.toNatClampNeg; let f_25 : Int32 := (r_Mod_takePlan ((r_Mod_throwing M f_7 f_9 0).2)) 3 f_13.toNatClampNeg; let f_26 : Int32 := f_24 - f_25; (f_26, (r_Mod_takePlan ((r_Mod_throwing M f_7 f_9 0).2)))) else (if q = 3 then (let f_23 : Int32 := (r_Mod_takePlan ((r_Mod_throwing M f_7 f_9 0).2)) 10 k.toNatClampNeg; (f_23, (r_Mod_takePlan ((r_Mod_throwing M f_7 f_9 0).2)))) else (if q = 4 then (let f_22 : Int32 := (r_Mod_takePlan ((r_Mod_throwing M f_7 f_9 0).2)) 11 k.toNatClampNeg; (f_22, (r_Mod_takePlan ((r_Mod_throwing M f_7 f_9 0).2)))) else (if q = 5 then (let f_21 : Int32 := (r_Mod_takePlan ((r_Mod_throwing M f_7 f_9 0).2)) 12 k.toNatClampNeg; (f_21, (r_Mod_takePlan ((r_Mod_throwing M f_7 f_9 0).2)))) else (let f_19 : Int32 := (r_Mod_takePlan ((r_Mod_throwing M f_7 f_9 0).2)) 13 k.toNatClampNeg; if f_19 = 0 then ((0, (r_Mod_takePlan ((r_Mod_throwing M f_7 f_9 0).2)))) else ((1, (r_Mod_takePlan ((r_Mod_throwing M f_7 f_9 0).2))))))))) else (if q = 0 then ((f_13, (r_Mod_takePlan ((r_Mod_throwing M f_7 f_9 0).2)))) else (let f_28 : Int32 := (r_Mod_takePlan ((r_Mod_throwing M f_7 f_9 0).2)) 9 k.toNatClampNeg; let f_29 : Int32 := f_28 - f_28 / 2 * 2; (f_29, (r_Mod_takePlan ((r_Mod_throwing M f_7 f_9 0).2)))))) else ((0, (r_Mod_throwing M f_7 f_9 0).2))
set_option maxHeartbeats 4000000 in
set_option maxRecDepth 100000 in
theorem k_Mod_step (l : Launch) (D : va_G) (cA cZ cL : ClassId) (a : Nat) (d : Nat → Nat) (M : Nat → Nat → Int32) (k q : Int32) (hN : ∃ n : Nat, n ≤ 6 ∧ M 0 1 = nI n) (hG : ∀ j, vp_in (M 1 j) 6) (hpl : ∀ j : Nat, (j : Int) < (M 0 1).toInt → vp_in (M 8 j) 12) : MetI l y_Mod_step (Cond.code y_Mod_step c_Mod_step 4 (some .int) :: base) ({ frames := 3, cells := 0, slots := 0, locals := 75 } : Room) D cls (tys3 cA cZ cL) ([.ref a, .int k, .int q]) (wMod cA cZ a d M) (r_Mod_step M k q).1 (wMod cA cZ a d ((r_Mod_step M k q).2)) := by
  intro sz
  refine Met.ofW (cc := c_Mod_step) (maxL := 4) (ret := (some .int)) (by decide) rfl ?_
  intro p e s m args below meth c s₁ B hml hv
  obtain ⟨rfl, hsz, hP, hK, hZ, hD0⟩ := hv
  have hx := B.exec
  have hb := B.bytes
  have hr := B.returns
  have hts0 := atoms_spec (ws := (Cond.code y_Mod_step c_Mod_step 4 (some .int) :: base)) B.pre
  have hts : ∀ w ∈ base, w.before _ s = true := fun w h => hts0 w (List.mem_cons_of_mem _ h)
  have hown : s.vm.findClass R_Mod = some m.cls := findClass_of_methodNamed B.named
  have hlocks := B.notSynchronized
  have hP : va_P D cls [(a, .inr (4, [.int (M 0 0), .int (M 0 1), .ref (d 1), .ref (d 2), .ref (d 3), .ref (d 4), .ref (d 5), .ref (d 6), .int (M 0 2), .int (M 0 3), .int (M 0 4), .int (M 0 5), .int (M 0 6), .int (M 0 7), .int (M 0 8), .ref (d 7), .int (M 0 9), .int (M 0 10), .int (M 0 11), .int (M 0 12), .ref (d 8), .ref (d 9), .ref (d 10), .ref (d 11), .ref (d 12), .ref (d 13), .int (M 0 13), .int (M 0 14), .int (M 0 15)])), (d 1, .inl (cA, 6, .inl (M 1))), (d 2, .inl (cA, 6, .inl (M 2))), (d 3, .inl (cA, 6, .inl (M 3))), (d 4, .inl (cA, 6, .inl (M 4))), (d 5, .inl (cA, 6, .inl (M 5))), (d 6, .inl (cA, 6, .inl (M 6))), (d 7, .inl (cA, 36, .inl (M 7))), (d 8, .inl (cA, 6, .inl (M 8))), (d 9, .inl (cA, 7, .inl (M 9))), (d 10, .inl (cA, 6, .inl (M 10))), (d 11, .inl (cA, 6, .inl (M 11))), (d 12, .inl (cA, 6, .inl (M 12))), (d 13, .inl (cZ, 6, .inl (M 13)))] s.heap := hP
  subst hsz
  have hD := hD0.self (sz := s.heap.size)
  generalize hAe : va_A (wMod cA cZ a d M) s.heap.size = A at hD ⊢
  have hA : ∀ q : Nat, s.heap.size ≤ q → A q := fun q h => by rw [← hAe]; exact Or.inr h
  have hS : va_S A s.heap s.heap [] := va_S.rf
  have hD : va_D A [(a, .inr (4, [.int (M 0 0), .int (M 0 1), .ref (d 1), .ref (d 2), .ref (d 3), .ref (d 4), .ref (d 5), .ref (d 6), .int (M 0 2), .int (M 0 3), .int (M 0 4), .int (M 0 5), .int (M 0 6), .int (M 0 7), .int (M 0 8), .ref (d 7), .int (M 0 9), .int (M 0 10), .int (M 0 11), .int (M 0 12), .ref (d 8), .ref (d 9), .ref (d 10), .ref (d 11), .ref (d 12), .ref (d 13), .int (M 0 13), .int (M 0 14), .int (M 0 15)])), (d 1, .inl (cA, 6, .inl (M 1))), (d 2, .inl (cA, 6, .inl (M 2))), (d 3, .inl (cA, 6, .inl (M 3))), (d 4, .inl (cA, 6, .inl (M 4))), (d 5, .inl (cA, 6, .inl (M 5))), (d 6, .inl (cA, 6, .inl (M 6))), (d 7, .inl (cA, 36, .inl (M 7))), (d 8, .inl (cA, 6, .inl (M 8))), (d 9, .inl (cA, 7, .inl (M 9))), (d 10, .inl (cA, 6, .inl (M 10))), (d 11, .inl (cA, 6, .inl (M 11))), (d 12, .inl (cA, 6, .inl (M 12))), (d 13, .inl (cZ, 6, .inl (M 13)))] := hD
  have hl := lv_entry ([.ref a, .int k, .int q]) (n := 4) (Nat.le_of_ble_eq_true rfl)
  rw [lg_entry_eq]
  generalize (lg_sl ([.ref a, .int k, .int q]) ++ List.replicate (4 - (lg_sl ([.ref a, .int k, .int q])).length) Slot.unset).toArray = ls at hl ⊢
  have hl : lv_has ls 4 [(0, .ref a), (1, .int k), (2, .int q)] := hl
  refine lv_aload_n hx hb d_Mod_step_0 rfl (lv_at hl 0 rfl) ?_
  refine jn 37 [.ref a] 4 [(0, .ref a), (1, .int k), (2, .int q)] (if M 0 12 = 0 then (0) else (let f_2 : Int32 := (M 0 1) - 1; let f_3 : Int32 := r_Mod_in k 0 f_2; if f_3 = 0 then (1) else (let f_5 : Int32 := r_Mod_in q 0 6; if f_5 = 0 then (1) else (0)))) (fun f_7 ls ef_7 hl => ?_) (fun J => ?_)
  · skip
    refine jn 49 [.int f_7, .ref a] 4 [(0, .ref a), (1, .int k), (2, .int q)] (if M 0 12 = 0 then (1) else (0)) (fun f_9 ls ef_9 hl => ?_) (fun J => ?_)
    · skip
      refine lv_iconst (v := 0) hx hb d_Mod_step_49 (by decide) ?_
      refine hw_callVi (C := R_Mod) (T := T_Mod) (N := 29) (wr := []) (As := [.int f_7, .int f_9, .int 0]) (rest := []) ⟨hx, hb, hml, hown, hts⟩ (k_Mod_throwing l D cA cZ cL a d M f_7 f_9 0 ) (bv_V 3 hts mb_626 (hts _ mb_5) (hts _ mb_623) (hts _ mb_625) (hts _ mbp_9) (by decide +kernel) ⟨Nat.le_of_ble_eq_true rfl, Nat.le_of_ble_eq_true rfl⟩) hK hZ hP hD hS hA [0, 1, 2, 3, 4, 5, 6, 7, 8, 9, 10, 11, 12, 13] [] rfl rfl (by decide) (by decide) (by decide) 0 4 rfl rfl rfl hl.1 rfl (lv_room (Nat.le_of_ble_eq_true rfl)) d_Mod_step_50 ⟨Nat.zero_le _, Nat.zero_le _⟩ (fun H locs hP hD hS => ?_)
      have hP : va_P D cls [(a, .inr (4, [.int ((r_Mod_throwing M f_7 f_9 0).2 0 0), .int ((r_Mod_throwing M f_7 f_9 0).2 0 1), .ref (d 1), .ref (d 2), .ref (d 3), .ref (d 4), .ref (d 5), .ref (d 6), .int ((r_Mod_throwing M f_7 f_9 0).2 0 2), .int ((r_Mod_throwing M f_7 f_9 0).2 0 3), .int ((r_Mod_throwing M f_7 f_9 0).2 0 4), .int ((r_Mod_throwing M f_7 f_9 0).2 0 5), .int ((r_Mod_throwing M f_7 f_9 0).2 0 6), .int ((r_Mod_throwing M f_7 f_9 0).2 0 7), .int ((r_Mod_throwing M f_7 f_9 0).2 0 8), .ref (d 7), .int ((r_Mod_throwing M f_7 f_9 0).2 0 9), .int ((r_Mod_throwing M f_7 f_9 0).2 0 10), .int ((r_Mod_throwing M f_7 f_9 0).2 0 11), .int ((r_Mod_throwing M f_7 f_9 0).2 0 12), .ref (d 8), .ref (d 9), .ref (d 10), .ref (d 11), .ref (d 12), .ref (d 13), .int ((r_Mod_throwing M f_7 f_9 0).2 0 13), .int ((r_Mod_throwing M f_7 f_9 0).2 0 14), .int ((r_Mod_throwing M f_7 f_9 0).2 0 15)])), (d 1, .inl (cA, 6, .inl ((r_Mod_throwing M f_7 f_9 0).2 1))), (d 2, .inl (cA, 6, .inl ((r_Mod_throwing M f_7 f_9 0).2 2))), (d 3, .inl (cA, 6, .inl ((r_Mod_throwing M f_7 f_9 0).2 3))), (d 4, .inl (cA, 6, .inl ((r_Mod_throwing M f_7 f_9 0).2 4))), (d 5, .inl (cA, 6, .inl ((r_Mod_throwing M f_7 f_9 0).2 5))), (d 6, .inl (cA, 6, .inl ((r_Mod_throwing M f_7 f_9 0).2 6))), (d 7, .inl (cA, 36, .inl ((r_Mod_throwing M f_7 f_9 0).2 7))), (d 8, .inl (cA, 6, .inl ((r_Mod_throwing M f_7 f_9 0).2 8))), (d 9, .inl (cA, 7, .inl ((r_Mod_throwing M f_7 f_9 0).2 9))), (d 10, .inl (cA, 6, .inl ((r_Mod_throwing M f_7 f_9 0).2 10))), (d 11, .inl (cA, 6, .inl ((r_Mod_throwing M f_7 f_9 0).2 11))), (d 12, .inl (cA, 6, .inl ((r_Mod_throwing M f_7 f_9 0).2 12))), (d 13, .inl (cZ, 6, .inl ((r_Mod_throwing M f_7 f_9 0).2 13)))] H := hP
      have hD : va_D A [(a, .inr (4, [.int ((r_Mod_throwing M f_7 f_9 0).2 0 0), .int ((r_Mod_throwing M f_7 f_9 0).2 0 1), .ref (d 1), .ref (d 2), .ref (d 3), .ref (d 4), .ref (d 5), .ref (d 6), .int ((r_Mod_throwing M f_7 f_9 0).2 0 2), .int ((r_Mod_throwing M f_7 f_9 0).2 0 3), .int ((r_Mod_throwing M f_7 f_9 0).2 0 4), .int ((r_Mod_throwing M f_7 f_9 0).2 0 5), .int ((r_Mod_throwing M f_7 f_9 0).2 0 6), .int ((r_Mod_throwing M f_7 f_9 0).2 0 7), .int ((r_Mod_throwing M f_7 f_9 0).2 0 8), .ref (d 7), .int ((r_Mod_throwing M f_7 f_9 0).2 0 9), .int ((r_Mod_throwing M f_7 f_9 0).2 0 10), .int ((r_Mod_throwing M f_7 f_9 0).2 0 11), .int ((r_Mod_throwing M f_7 f_9 0).2 0 12), .ref (d 8), .ref (d 9), .ref (d 10), .ref (d 11), .ref (d 12), .ref (d 13), .int ((r_Mod_throwing M f_7 f_9 0).2 0 13), .int ((r_Mod_throwing M f_7 f_9 0).2 0 14), .int ((r_Mod_throwing M f_7 f_9 0).2 0 15)])), (d 1, .inl (cA, 6, .inl ((r_Mod_throwing M f_7 f_9 0).2 1))), (d 2, .inl (cA, 6, .inl ((r_Mod_throwing M f_7 f_9 0).2 2))), (d 3, .inl (cA, 6, .inl ((r_Mod_throwing M f_7 f_9 0).2 3))), (d 4, .inl (cA, 6, .inl ((r_Mod_throwing M f_7 f_9 0).2 4))), (d 5, .inl (cA, 6, .inl ((r_Mod_throwing M f_7 f_9 0).2 5))), (d 6, .inl (cA, 6, .inl ((r_Mod_throwing M f_7 f_9 0).2 6))), (d 7, .inl (cA, 36, .inl ((r_Mod_throwing M f_7 f_9 0).2 7))), (d 8, .inl (cA, 6, .inl ((r_Mod_throwing M f_7 f_9 0).2 8))), (d 9, .inl (cA, 7, .inl ((r_Mod_throwing M f_7 f_9 0).2 9))), (d 10, .inl (cA, 6, .inl ((r_Mod_throwing M f_7 f_9 0).2 10))), (d 11, .inl (cA, 6, .inl ((r_Mod_throwing M f_7 f_9 0).2 11))), (d 12, .inl (cA, 6, .inl ((r_Mod_throwing M f_7 f_9 0).2 12))), (d 13, .inl (cZ, 6, .inl ((r_Mod_throwing M f_7 f_9 0).2 13)))] := hD
      refine lv_topi (fun f_10 ef_10 => ?_)
      refine lv_if_eq (tgt := 58) hx hb d_Mod_step_53 (by decide) (fun c_11 => ?_) (fun c_11 => ?_)
      · skip
        have ht0 := thr_0 (M := M) (h := f_7) (k := f_9) (q := 0) (by rw [← ef_10]; exact c_11)
        have hk6 := step_ix hN ef_7 ef_9 ht0.1 ht0.2.1
        have htn := take_now (thr_N (h := f_7) (k := f_9) (q := 0) hN) (thr_pl hpl)
        have hn6 := half6 (htn.2 k.toNatClampNeg (by rw [(thr_tab M f_7 f_9 0).2 0]; exact cl_lt hk6.1 hk6.2))
        refine lv_aload_n hx hb d_Mod_step_58 rfl (lv_at hl 0 rfl) ?_
        refine hw_callVv (C := R_Mod) (T := T_Mod) (N := 29) (wr := []) (As := []) (rest := []) ⟨hx, hb, hml, hown, hts⟩ (k_Mod_takePlan l D cA cZ cL a d ((r_Mod_throwing M f_7 f_9 0).2)  (thr_N hN) (thr_G hG) (thr_pl hpl)) (bv_V 0 hts mb_675 (hts _ mb_5) (hts _ mb_672) (hts _ mb_674) (hts _ mbp_16) (by decide +kernel) ⟨Nat.le_of_ble_eq_true rfl, Nat.le_of_ble_eq_true rfl⟩) hK hZ hP hD hS hA [0, 1, 2, 3, 4, 5, 6, 7, 8, 9, 10, 11, 12, 13] [] rfl rfl (by decide) (by decide) (by decide) 0 4 rfl rfl rfl hl.1 rfl (lv_room (Nat.le_of_ble_eq_true rfl)) d_Mod_step_59 ⟨Nat.zero_le _, Nat.zero_le _⟩ (fun H locs hP hD hS => ?_)
        have hP : va_P D cls [(a, .inr (4, [.int ((r_Mod_takePlan ((r_Mod_throwing M f_7 f_9 0).2)) 0 0), .int ((r_Mod_takePlan ((r_Mod_throwing M f_7 f_9 0).2)) 0 1), .ref (d 1), .ref (d 2), .ref (d 3), .ref (d 4), .ref (d 5), .ref (d 6), .int ((r_Mod_takePlan ((r_Mod_throwing M f_7 f_9 0).2)) 0 2), .int ((r_Mod_takePlan ((r_Mod_throwing M f_7 f_9 0).2)) 0 3), .int ((r_Mod_takePlan ((r_Mod_throwing M f_7 f_9 0).2)) 0 4), .int ((r_Mod_takePlan ((r_Mod_throwing M f_7 f_9 0).2)) 0 5), .int ((r_Mod_takePlan ((r_Mod_throwing M f_7 f_9 0).2)) 0 6), .int ((r_Mod_takePlan ((r_Mod_throwing M f_7 f_9 0).2)) 0 7), .int ((r_Mod_takePlan ((r_Mod_throwing M f_7 f_9 0).2)) 0 8), .ref (d 7), .int ((r_Mod_takePlan ((r_Mod_throwing M f_7 f_9 0).2)) 0 9), .int ((r_Mod_takePlan ((r_Mod_throwing M f_7 f_9 0).2)) 0 10), .int ((r_Mod_takePlan ((r_Mod_throwing M f_7 f_9 0).2)) 0 11), .int ((r_Mod_takePlan ((r_Mod_throwing M f_7 f_9 0).2)) 0 12), .ref (d 8), .ref (d 9), .ref (d 10), .ref (d 11), .ref (d 12), .ref (d 13), .int ((r_Mod_takePlan ((r_Mod_throwing M f_7 f_9 0).2)) 0 13), .int ((r_Mod_takePlan ((r_Mod_throwing M f_7 f_9 0).2)) 0 14), .int ((r_Mod_takePlan ((r_Mod_throwing M f_7 f_9 0).2)) 0 15)])), (d 1, .inl (cA, 6, .inl ((r_Mod_takePlan ((r_Mod_throwing M f_7 f_9 0).2)) 1))), (d 2, .inl (cA, 6, .inl ((r_Mod_takePlan ((r_Mod_throwing M f_7 f_9 0).2)) 2))), (d 3, .inl (cA, 6, .inl ((r_Mod_takePlan ((r_Mod_throwing M f_7 f_9 0).2)) 3))), (d 4, .inl (cA, 6, .inl ((r_Mod_takePlan ((r_Mod_throwing M f_7 f_9 0).2)) 4))), (d 5, .inl (cA, 6, .inl ((r_Mod_takePlan ((r_Mod_throwing M f_7 f_9 0).2)) 5))), (d 6, .inl (cA, 6, .inl ((r_Mod_takePlan ((r_Mod_throwing M f_7 f_9 0).2)) 6))), (d 7, .inl (cA, 36, .inl ((r_Mod_takePlan ((r_Mod_throwing M f_7 f_9 0).2)) 7))), (d 8, .inl (cA, 6, .inl ((r_Mod_takePlan ((r_Mod_throwing M f_7 f_9 0).2)) 8))), (d 9, .inl (cA, 7, .inl ((r_Mod_takePlan ((r_Mod_throwing M f_7 f_9 0).2)) 9))), (d 10, .inl (cA, 6, .inl ((r_Mod_takePlan ((r_Mod_throwing M f_7 f_9 0).2)) 10))), (d 11, .inl (cA, 6, .inl ((r_Mod_takePlan ((r_Mod_throwing M f_7 f_9 0).2)) 11))), (d 12, .inl (cA, 6, .inl ((r_Mod_takePlan ((r_Mod_throwing M f_7 f_9 0).2)) 12))), (d 13, .inl (cZ, 6, .inl ((r_Mod_takePlan ((r_Mod_throwing M f_7 f_9 0).2)) 13)))] H := hP
        have hD : va_D A [(a, .inr (4, [.int ((r_Mod_takePlan ((r_Mod_throwing M f_7 f_9 0).2)) 0 0), .int ((r_Mod_takePlan ((r_Mod_throwing M f_7 f_9 0).2)) 0 1), .ref (d 1), .ref (d 2), .ref (d 3), .ref (d 4), .ref (d 5), .ref (d 6), .int ((r_Mod_takePlan ((r_Mod_throwing M f_7 f_9 0).2)) 0 2), .int ((r_Mod_takePlan ((r_Mod_throwing M f_7 f_9 0).2)) 0 3), .int ((r_Mod_takePlan ((r_Mod_throwing M f_7 f_9 0).2)) 0 4), .int ((r_Mod_takePlan ((r_Mod_throwing M f_7 f_9 0).2)) 0 5), .int ((r_Mod_takePlan ((r_Mod_throwing M f_7 f_9 0).2)) 0 6), .int ((r_Mod_takePlan ((r_Mod_throwing M f_7 f_9 0).2)) 0 7), .int ((r_Mod_takePlan ((r_Mod_throwing M f_7 f_9 0).2)) 0 8), .ref (d 7), .int ((r_Mod_takePlan ((r_Mod_throwing M f_7 f_9 0).2)) 0 9), .int ((r_Mod_takePlan ((r_Mod_throwing M f_7 f_9 0).2)) 0 10), .int ((r_Mod_takePlan ((r_Mod_throwing M f_7 f_9 0).2)) 0 11), .int ((r_Mod_takePlan ((r_Mod_throwing M f_7 f_9 0).2)) 0 12), .ref (d 8), .ref (d 9), .ref (d 10), .ref (d 11), .ref (d 12), .ref (d 13), .int ((r_Mod_takePlan ((r_Mod_throwing M f_7 f_9 0).2)) 0 13), .int ((r_Mod_takePlan ((r_Mod_throwing M f_7 f_9 0).2)) 0 14), .int ((r_Mod_takePlan ((r_Mod_throwing M f_7 f_9 0).2)) 0 15)])), (d 1, .inl (cA, 6, .inl ((r_Mod_takePlan ((r_Mod_throwing M f_7 f_9 0).2)) 1))), (d 2, .inl (cA, 6, .inl ((r_Mod_takePlan ((r_Mod_throwing M f_7 f_9 0).2)) 2))), (d 3, .inl (cA, 6, .inl ((r_Mod_takePlan ((r_Mod_throwing M f_7 f_9 0).2)) 3))), (d 4, .inl (cA, 6, .inl ((r_Mod_takePlan ((r_Mod_throwing M f_7 f_9 0).2)) 4))), (d 5, .inl (cA, 6, .inl ((r_Mod_takePlan ((r_Mod_throwing M f_7 f_9 0).2)) 5))), (d 6, .inl (cA, 6, .inl ((r_Mod_takePlan ((r_Mod_throwing M f_7 f_9 0).2)) 6))), (d 7, .inl (cA, 36, .inl ((r_Mod_takePlan ((r_Mod_throwing M f_7 f_9 0).2)) 7))), (d 8, .inl (cA, 6, .inl ((r_Mod_takePlan ((r_Mod_throwing M f_7 f_9 0).2)) 8))), (d 9, .inl (cA, 7, .inl ((r_Mod_takePlan ((r_Mod_throwing M f_7 f_9 0).2)) 9))), (d 10, .inl (cA, 6, .inl ((r_Mod_takePlan ((r_Mod_throwing M f_7 f_9 0).2)) 10))), (d 11, .inl (cA, 6, .inl ((r_Mod_takePlan ((r_Mod_throwing M f_7 f_9 0).2)) 11))), (d 12, .inl (cA, 6, .inl ((r_Mod_takePlan ((r_Mod_throwing M f_7 f_9 0).2)) 12))), (d 13, .inl (cZ, 6, .inl ((r_Mod_takePlan ((r_Mod_throwing M f_7 f_9 0).2)) 13)))] := hD
        refine lv_aload_n hx hb d_Mod_step_62 rfl (lv_at hl 0 rfl) ?_
        refine va_get (D := D) (ci := 4) (v := .ref (d 9)) (C := R_Mod) (T := T_Mod) (N := 29) hx hb hts i_Mod hown hK hP 0 rfl rfl 21 (by decide) (hts _ mb_544) (fun _ h9 => h9) rfl d_Mod_step_63 ?_
        refine lv_iload_n hx hb d_Mod_step_66 rfl (lv_at hl 1 rfl) ?_
        refine va_iald hx hb hK hP 9 0 rfl rfl (in_le hk6.1 (by decide)) d_Mod_step_67 ?_
        refine lv_topi (fun f_12 ef_12 => ?_)
        refine lv_iconst (v := 2) hx hb d_Mod_step_68 (by decide) ?_
        refine lv_idiv hx hb d_Mod_step_69 (by decide) ?_
        refine lv_topi (fun f_13 ef_13 => ?_)
        refine lv_istore_n (lv' := [(3, .int f_13), (0, .ref a), (1, .int k), (2, .int q)]) hx hb d_Mod_step_70 rfl hl (by decide) rfl (fun ls hl => ?_)
        refine lv_iload_n hx hb d_Mod_step_71 rfl (lv_at hl 3 rfl) ?_
        refine lv_iconst (v := 2) hx hb d_Mod_step_72 (by decide) ?_
        refine lv_icmp_ge (tgt := 93) hx hb d_Mod_step_73 (by decide) (fun c_14 => ?_) (fun c_14 => ?_)
        · skip
          refine lv_iload_n hx hb d_Mod_step_93 rfl (lv_at hl 3 rfl) ?_
          refine lv_iconst (v := 2) hx hb d_Mod_step_94 (by decide) ?_
          refine lv_icmp_ne (tgt := 112) hx hb d_Mod_step_95 (by decide) (fun c_15 => ?_) (fun c_15 => ?_)
          · skip
            refine lv_iload_n hx hb d_Mod_step_112 rfl (lv_at hl 3 rfl) ?_
            refine lv_iconst (v := 3) hx hb d_Mod_step_113 (by decide) ?_
            refine lv_icmp_ne (tgt := 126) hx hb d_Mod_step_114 (by decide) (fun c_16 => ?_) (fun c_16 => ?_)
            · skip
              refine lv_iload_n hx hb d_Mod_step_126 rfl (lv_at hl 3 rfl) ?_
              refine lv_iconst (v := 4) hx hb d_Mod_step_127 (by decide) ?_
              refine lv_icmp_ne (tgt := 140) hx hb d_Mod_step_128 (by decide) (fun c_17 => ?_) (fun c_17 => ?_)
              · skip
                refine lv_iload_n hx hb d_Mod_step_140 rfl (lv_at hl 3 rfl) ?_
                refine lv_iconst (v := 5) hx hb d_Mod_step_141 (by decide) ?_
                refine lv_icmp_ne (tgt := 154) hx hb d_Mod_step_142 (by decide) (fun c_18 => ?_) (fun c_18 => ?_)
                · skip
                  refine lv_aload_n hx hb d_Mod_step_154 rfl (lv_at hl 1 rfl) ?_
                  refine va_get (D := D) (ci := 4) (v := .ref (d 13)) (C := R_Mod) (T := T_Mod) (N := 29) hx hb hts i_Mod hown hK hP 0 rfl rfl 25 (by decide) (hts _ mb_548) (fun _ h9 => h9) rfl d_Mod_step_155 ?_
                  refine lv_iload_n hx hb d_Mod_step_158 rfl (lv_at hl 2 rfl) ?_
                  refine va_zald hx hb hK hP 13 1 rfl rfl hk6.1 d_Mod_step_159 ?_
                  refine lv_topi (fun f_19 ef_19 => ?_)
                  refine lv_if_eq (tgt := 167) hx hb d_Mod_step_160 (by decide) (fun c_20 => ?_) (fun c_20 => ?_)
                  · skip
                    refine lv_iconst (v := 0) hx hb d_Mod_step_167 (by decide) ?_
                    have e9 : r_Mod_step M k q = (0, (r_Mod_takePlan ((r_Mod_throwing M f_7 f_9 0).2))) := by
                      subst ef_7 ef_9 ef_10 ef_12 ef_13 ef_19; unfold r_Mod_step; simp only [if_pos c_11, if_pos c_14, if_neg c_15, if_neg c_16, if_neg c_17, if_neg c_18, if_pos c_20]
                    exact W.iret (v := 0) hx hb hr (fun t ht hW => ⟨⟨_, (), rfl, (by rw [e9]), (by rw [e9, ht]; try dsimp only; exact hP.sub [0, 1, 2, 3, 4, 5, 6, 7, 8, 9, 10, 11, 12, 13] rfl), (by rw [e9]; try dsimp only; exact hD.sub [0, 1, 2, 3, 4, 5, 6, 7, 8, 9, 10, 11, 12, 13] (by decide) rfl)⟩, hS.F ht⟩) hS.2.2 d_Mod_step_168
                  · skip
                    refine lv_iconst (v := 1) hx hb d_Mod_step_163 (by decide) ?_
                    refine lv_goto (tgt := 168) hx hb d_Mod_step_164 (by decide) ?_
                    have e9 : r_Mod_step M k q = (1, (r_Mod_takePlan ((r_Mod_throwing M f_7 f_9 0).2))) := by
                      subst ef_7 ef_9 ef_10 ef_12 ef_13 ef_19; unfold r_Mod_step; simp only [if_pos c_11, if_pos c_14, if_neg c_15, if_neg c_16, if_neg c_17, if_neg c_18, if_neg c_20]
                    exact W.iret (v := 1) hx hb hr (fun t ht hW => ⟨⟨_, (), rfl, (by rw [e9]), (by rw [e9, ht]; try dsimp only; exact hP.sub [0, 1, 2, 3, 4, 5, 6, 7, 8, 9, 10, 11, 12, 13] rfl), (by rw [e9]; try dsimp only; exact hD.sub [0, 1, 2, 3, 4, 5, 6, 7, 8, 9, 10, 11, 12, 13] (by decide) rfl)⟩, hS.F ht⟩) hS.2.2 d_Mod_step_168
                · skip
                  refine lv_aload_n hx hb d_Mod_step_145 rfl (lv_at hl 1 rfl) ?_
                  refine va_get (D := D) (ci := 4) (v := .ref (d 12)) (C := R_Mod) (T := T_Mod) (N := 29) hx hb hts i_Mod hown hK hP 0 rfl rfl 24 (by decide) (hts _ mb_547) (fun _ h9 => h9) rfl d_Mod_step_146 ?_
                  refine lv_iload_n hx hb d_Mod_step_149 rfl (lv_at hl 2 rfl) ?_
                  refine va_iald hx hb hK hP 12 0 rfl rfl hk6.1 d_Mod_step_150 ?_
                  refine lv_topi (fun f_21 ef_21 => ?_)
                  refine lv_goto (tgt := 168) hx hb d_Mod_step_151 (by decide) ?_
                  have e9 : r_Mod_step M k q = (f_21, (r_Mod_takePlan ((r_Mod_throwing M f_7 f_9 0).2))) := by
                    subst ef_7 ef_9 ef_10 ef_12 ef_13 ef_21; unfold r_Mod_step; simp only [if_pos c_11, if_pos c_14, if_neg c_15, if_neg c_16, if_neg c_17, if_pos c_18]
                  exact W.iret (v := f_21) hx hb hr (fun t ht hW => ⟨⟨_, (), rfl, (by rw [e9]), (by rw [e9, ht]; try dsimp only; exact hP.sub [0, 1, 2, 3, 4, 5, 6, 7, 8, 9, 10, 11, 12, 13] rfl), (by rw [e9]; try dsimp only; exact hD.sub [0, 1, 2, 3, 4, 5, 6, 7, 8, 9, 10, 11, 12, 13] (by decide) rfl)⟩, hS.F ht⟩) hS.2.2 d_Mod_step_168
              · skip
                refine lv_aload_n hx hb d_Mod_step_131 rfl (lv_at hl 1 rfl) ?_
                refine va_get (D := D) (ci := 4) (v := .ref (d 11)) (C := R_Mod) (T := T_Mod) (N := 29) hx hb hts i_Mod hown hK hP 0 rfl rfl 23 (by decide) (hts _ mb_546) (fun _ h9 => h9) rfl d_Mod_step_132 ?_
                refine lv_iload_n hx hb d_Mod_step_135 rfl (lv_at hl 2 rfl) ?_
                refine va_iald hx hb hK hP 11 0 rfl rfl hk6.1 d_Mod_step_136 ?_
                refine lv_topi (fun f_22 ef_22 => ?_)
                refine lv_goto (tgt := 168) hx hb d_Mod_step_137 (by decide) ?_
                have e9 : r_Mod_step M k q = (f_22, (r_Mod_takePlan ((r_Mod_throwing M f_7 f_9 0).2))) := by
                  subst ef_7 ef_9 ef_10 ef_12 ef_13 ef_22; unfold r_Mod_step; simp only [if_pos c_11, if_pos c_14, if_neg c_15, if_neg c_16, if_pos c_17]
                exact W.iret (v := f_22) hx hb hr (fun t ht hW => ⟨⟨_, (), rfl, (by rw [e9]), (by rw [e9, ht]; try dsimp only; exact hP.sub [0, 1, 2, 3, 4, 5, 6, 7, 8, 9, 10, 11, 12, 13] rfl), (by rw [e9]; try dsimp only; exact hD.sub [0, 1, 2, 3, 4, 5, 6, 7, 8, 9, 10, 11, 12, 13] (by decide) rfl)⟩, hS.F ht⟩) hS.2.2 d_Mod_step_168
            · skip
              refine lv_aload_n hx hb d_Mod_step_117 rfl (lv_at hl 1 rfl) ?_
              refine va_get (D := D) (ci := 4) (v := .ref (d 10)) (C := R_Mod) (T := T_Mod) (N := 29) hx hb hts i_Mod hown hK hP 0 rfl rfl 22 (by decide) (hts _ mb_545) (fun _ h9 => h9) rfl d_Mod_step_118 ?_
              refine lv_iload_n hx hb d_Mod_step_121 rfl (lv_at hl 2 rfl) ?_
              refine va_iald hx hb hK hP 10 0 rfl rfl hk6.1 d_Mod_step_122 ?_
              refine lv_topi (fun f_23 ef_23 => ?_)
              refine lv_goto (tgt := 168) hx hb d_Mod_step_123 (by decide) ?_
              have e9 : r_Mod_step M k q = (f_23, (r_Mod_takePlan ((r_Mod_throwing M f_7 f_9 0).2))) := by
                subst ef_7 ef_9 ef_10 ef_12 ef_13 ef_23; unfold r_Mod_step; simp only [if_pos c_11, if_pos c_14, if_neg c_15, if_pos c_16]
              exact W.iret (v := f_23) hx hb hr (fun t ht hW => ⟨⟨_, (), rfl, (by rw [e9]), (by rw [e9, ht]; try dsimp only; exact hP.sub [0, 1, 2, 3, 4, 5, 6, 7, 8, 9, 10, 11, 12, 13] rfl), (by rw [e9]; try dsimp only; exact hD.sub [0, 1, 2, 3, 4, 5, 6, 7, 8, 9, 10, 11, 12, 13] (by decide) rfl)⟩, hS.F ht⟩) hS.2.2 d_Mod_step_168
          · skip
            refine lv_aload_n hx hb d_Mod_step_98 rfl (lv_at hl 1 rfl) ?_
            refine va_get (D := D) (ci := 4) (v := .ref (d 10)) (C := R_Mod) (T := T_Mod) (N := 29) hx hb hts i_Mod hown hK hP 0 rfl rfl 22 (by decide) (hts _ mb_545) (fun _ h9 => h9) rfl d_Mod_step_99 ?_
            refine lv_iload_n hx hb d_Mod_step_102 rfl (lv_at hl 2 rfl) ?_
            refine va_iald hx hb hK hP 10 0 rfl rfl hk6.1 d_Mod_step_103 ?_
            refine lv_topi (fun f_24 ef_24 => ?_)
            refine lv_aload_n hx hb d_Mod_step_104 rfl (lv_at hl 1 rfl) ?_
            refine va_get (D := D) (ci := 4) (v := .ref (d 3)) (C := R_Mod) (T := T_Mod) (N := 29) hx hb hts i_Mod hown hK hP 0 rfl rfl 4 (by decide) (hts _ mb_527) (fun _ h9 => h9) rfl d_Mod_step_105 ?_
            refine lv_iload_n hx hb d_Mod_step_108 rfl (lv_at hl 0 rfl) ?_
            refine va_iald hx hb hK hP 3 0 rfl rfl (by rw [ef_13, ef_12]; exact hn6) d_Mod_step_109 ?_
            refine lv_topi (fun f_25 ef_25 => ?_)
            refine lv_isub hx hb d_Mod_step_110 ?_
            refine lv_topi (fun f_26 ef_26 => ?_)
            have e9 : r_Mod_step M k q = (f_26, (r_Mod_takePlan ((r_Mod_throwing M f_7 f_9 0).2))) := by
              subst ef_7 ef_9 ef_10 ef_12 ef_13 ef_24 ef_25 ef_26; unfold r_Mod_step; simp only [if_pos c_11, if_pos c_14, if_pos c_15]
            exact W.iret (v := f_26) hx hb hr (fun t ht hW => ⟨⟨_, (), rfl, (by rw [e9]), (by rw [e9, ht]; try dsimp only; exact hP.sub [0, 1, 2, 3, 4, 5, 6, 7, 8, 9, 10, 11, 12, 13] rfl), (by rw [e9]; try dsimp only; exact hD.sub [0, 1, 2, 3, 4, 5, 6, 7, 8, 9, 10, 11, 12, 13] (by decide) rfl)⟩, hS.F ht⟩) hS.2.2 d_Mod_step_111
        · skip
          refine lv_iload_n hx hb d_Mod_step_76 rfl (lv_at hl 3 rfl) ?_
          refine lv_if_ne (tgt := 84) hx hb d_Mod_step_77 (by decide) (fun c_27 => ?_) (fun c_27 => ?_)
          · skip
            refine lv_aload_n hx hb d_Mod_step_84 rfl (lv_at hl 1 rfl) ?_
            refine va_get (D := D) (ci := 4) (v := .ref (d 9)) (C := R_Mod) (T := T_Mod) (N := 29) hx hb hts i_Mod hown hK hP 0 rfl rfl 21 (by decide) (hts _ mb_544) (fun _ h9 => h9) rfl d_Mod_step_85 ?_
            refine lv_iload_n hx hb d_Mod_step_88 rfl (lv_at hl 2 rfl) ?_
            refine va_iald hx hb hK hP 9 0 rfl rfl (in_le hk6.1 (by decide)) d_Mod_step_89 ?_
            refine lv_topi (fun f_28 ef_28 => ?_)
            refine lv_iconst (v := 2) hx hb d_Mod_step_90 (by decide) ?_
            refine lv_irem hx hb d_Mod_step_91 (by decide) ?_
            refine lv_topi (fun f_29 ef_29 => ?_)
            have e9 : r_Mod_step M k q = (f_29, (r_Mod_takePlan ((r_Mod_throwing M f_7 f_9 0).2))) := by
              subst ef_7 ef_9 ef_10 ef_12 ef_13 ef_28 ef_29; unfold r_Mod_step; simp only [if_pos c_11, if_neg c_14, if_neg c_27]
            exact W.iret (v := f_29) hx hb hr (fun t ht hW => ⟨⟨_, (), rfl, (by rw [e9]), (by rw [e9, ht]; try dsimp only; exact hP.sub [0, 1, 2, 3, 4, 5, 6, 7, 8, 9, 10, 11, 12, 13] rfl), (by rw [e9]; try dsimp only; exact hD.sub [0, 1, 2, 3, 4, 5, 6, 7, 8, 9, 10, 11, 12, 13] (by decide) rfl)⟩, hS.F ht⟩) hS.2.2 d_Mod_step_92
          · skip
            refine lv_iload_n hx hb d_Mod_step_80 rfl (lv_at hl 0 rfl) ?_
            refine lv_goto (tgt := 92) hx hb d_Mod_step_81 (by decide) ?_
            have e9 : r_Mod_step M k q = (f_13, (r_Mod_takePlan ((r_Mod_throwing M f_7 f_9 0).2))) := by
              subst ef_7 ef_9 ef_10 ef_12 ef_13; unfold r_Mod_step; simp only [if_pos c_11, if_neg c_14, if_pos c_27]
            exact W.iret (v := f_13) hx hb hr (fun t ht hW => ⟨⟨_, (), rfl, (by rw [e9]), (by rw [e9, ht]; try dsimp only; exact hP.sub [0, 1, 2, 3, 4, 5, 6, 7, 8, 9, 10, 11, 12, 13] rfl), (by rw [e9]; try dsimp only; exact hD.sub [0, 1, 2, 3, 4, 5, 6, 7, 8, 9, 10, 11, 12, 13] (by decide) rfl)⟩, hS.F ht⟩) hS.2.2 d_Mod_step_92
      · skip
        refine lv_iconst (v := 0) hx hb d_Mod_step_56 (by decide) ?_
        have e9 : r_Mod_step M k q = (0, (r_Mod_throwing M f_7 f_9 0).2) := by
          subst ef_7 ef_9 ef_10; unfold r_Mod_step; simp only [if_neg c_11]
        exact W.iret (v := 0) hx hb hr (fun t ht hW => ⟨⟨_, (), rfl, (by rw [e9]), (by rw [e9, ht]; try dsimp only; exact hP.sub [0, 1, 2, 3, 4, 5, 6, 7, 8, 9, 10, 11, 12, 13] rfl), (by rw [e9]; try dsimp only; exact hD.sub [0, 1, 2, 3, 4, 5, 6, 7, 8, 9, 10, 11, 12, 13] (by decide) rfl)⟩, hS.F ht⟩) hS.2.2 d_Mod_step_57
    · skip
      refine lv_aload_n hx hb d_Mod_step_37 rfl (lv_at hl 0 rfl) ?_
      refine va_get (D := D) (ci := 4) (v := .int (M 0 12)) (C := R_Mod) (T := T_Mod) (N := 29) hx hb hts i_Mod hown hK hP 0 rfl rfl 19 (by decide) (hts _ mb_542) (fun _ h9 => h9) rfl d_Mod_step_38 ?_
      refine lv_if_ne (tgt := 48) hx hb d_Mod_step_41 (by decide) (fun c_8 => ?_) (fun c_8 => ?_)
      · skip
        refine lv_iconst (v := 0) hx hb d_Mod_step_48 (by decide) ?_
        exact J _ _ (by simp only [if_neg c_8]) (lv_sub hl [0, 1, 2] rfl)
      · skip
        refine lv_iconst (v := 1) hx hb d_Mod_step_44 (by decide) ?_
        refine lv_goto (tgt := 49) hx hb d_Mod_step_45 (by decide) ?_
        exact J _ _ (by simp only [if_pos c_8]) (lv_sub hl [0, 1, 2] rfl)
  · skip
    refine lv_aload_n hx hb d_Mod_step_1 rfl (lv_at hl 0 rfl) ?_
    refine va_get (D := D) (ci := 4) (v := .int (M 0 12)) (C := R_Mod) (T := T_Mod) (N := 29) hx hb hts i_Mod hown hK hP 0 rfl rfl 19 (by decide) (hts _ mb_542) (fun _ h9 => h9) rfl d_Mod_step_2 ?_
    refine lv_if_eq (tgt := 36) hx hb d_Mod_step_5 (by decide) (fun c_1 => ?_) (fun c_1 => ?_)
    · skip
      refine lv_iconst (v := 0) hx hb d_Mod_step_36 (by decide) ?_
      exact J _ _ (by simp only [if_pos c_1]) (lv_sub hl [0, 1, 2] rfl)
    · skip
      refine lv_iload_n hx hb d_Mod_step_8 rfl (lv_at hl 1 rfl) ?_
      refine lv_iconst (v := 0) hx hb d_Mod_step_9 (by decide) ?_
      refine lv_aload_n hx hb d_Mod_step_10 rfl (lv_at hl 0 rfl) ?_
      refine va_get (D := D) (ci := 4) (v := .int (M 0 1)) (C := R_Mod) (T := T_Mod) (N := 29) hx hb hts i_Mod hown hK hP 0 rfl rfl 1 (by decide) (hts _ mb_524) (fun _ h9 => h9) rfl d_Mod_step_11 ?_
      refine lv_iconst (v := 1) hx hb d_Mod_step_14 (by decide) ?_
      refine lv_isub hx hb d_Mod_step_15 ?_
      refine lv_topi (fun f_2 ef_2 => ?_)
      refine hr_callS (As := [.int k, .int 0, .int f_2]) (rest := [.ref a]) ⟨hx, hb, hml, hown, hts⟩ (k_Mod_in l D cA cZ cL k 0 f_2) (bs_S 3 hts mb_622 (hts _ mb_5) (hts _ mb_620) (hts _ mb_621) (by decide +kernel) ⟨Nat.le_of_ble_eq_true rfl, Nat.le_of_ble_eq_true rfl⟩) hK hZ hP [] rfl rfl hl.1 rfl (lv_room (Nat.le_of_ble_eq_true rfl)) d_Mod_step_16 ⟨Nat.zero_le _, Nat.zero_le _⟩ ?_
      refine lv_topi (fun f_3 ef_3 => ?_)
      refine lv_if_eq (tgt := 32) hx hb d_Mod_step_19 (by decide) (fun c_4 => ?_) (fun c_4 => ?_)
      · skip
        refine lv_iconst (v := 1) hx hb d_Mod_step_32 (by decide) ?_
        refine lv_goto (tgt := 37) hx hb d_Mod_step_33 (by decide) ?_
        exact J _ _ (by subst ef_2 ef_3; simp only [if_neg c_1, if_pos c_4]) (lv_sub hl [0, 1, 2] rfl)
      · skip
        refine lv_iload_n hx hb d_Mod_step_22 rfl (lv_at hl 2 rfl) ?_
        refine lv_iconst (v := 0) hx hb d_Mod_step_23 (by decide) ?_
        refine lv_bipush (v := 6) hx hb d_Mod_step_24 (by decide) ?_
        refine hr_callS (As := [.int q, .int 0, .int 6]) (rest := [.ref a]) ⟨hx, hb, hml, hown, hts⟩ (k_Mod_in l D cA cZ cL q 0 6) (bs_S 3 hts mb_622 (hts _ mb_5) (hts _ mb_620) (hts _ mb_621) (by decide +kernel) ⟨Nat.le_of_ble_eq_true rfl, Nat.le_of_ble_eq_true rfl⟩) hK hZ hP [] rfl rfl hl.1 rfl (lv_room (Nat.le_of_ble_eq_true rfl)) d_Mod_step_26 ⟨Nat.zero_le _, Nat.zero_le _⟩ ?_
        refine lv_topi (fun f_5 ef_5 => ?_)
        refine lv_if_ne (tgt := 36) hx hb d_Mod_step_29 (by decide) (fun c_6 => ?_) (fun c_6 => ?_)
        · skip
          refine lv_iconst (v := 0) hx hb d_Mod_step_36 (by decide) ?_
          exact J _ _ (by subst ef_2 ef_3 ef_5; simp only [if_neg c_1, if_neg c_4, if_neg c_6]) (lv_sub hl [0, 1, 2] rfl)
        · skip
          refine lv_iconst (v := 1) hx hb d_Mod_step_32 (by decide) ?_
          refine lv_goto (tgt := 37) hx hb d_Mod_step_33 (by decide) ?_
          exact J _ _ (by subst ef_2 ef_3 ef_5; simp only [if_neg c_1, if_neg c_4, if_pos c_6]) (lv_sub hl [0, 1, 2] rfl)
