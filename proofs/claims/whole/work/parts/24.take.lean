/-! the model: takePlan, told, step -/
theorem in7_N {N : Int32} (h : ∃ n : Nat, n ≤ 6 ∧ N = nI n) : vp_in N 7 := by
  obtain ⟨n, hn, rfl⟩ := h
  exact vp_in_nI (by omega) (by decide)
theorem thr_N {M : Nat → Nat → Int32} {h k q : Int32} (hN : ∃ n : Nat, n ≤ 6 ∧ M 0 1 = nI n) : ∃ n : Nat, n ≤ 6 ∧ (r_Mod_throwing M h k q).2 0 1 = nI n := by
  rw [(thr_tab M h k q).2 0]
  exact hN
theorem thr_G {M : Nat → Nat → Int32} {h k q : Int32} (hG : ∀ j, vp_in (M 1 j) 6) : ∀ j, vp_in ((r_Mod_throwing M h k q).2 1 j) 6 := by
  rw [(thr_tab M h k q).1 0]
  exact hG
theorem thr_pl {M : Nat → Nat → Int32} {h k q : Int32} (hpl : ∀ j : Nat, (j : Int) < (M 0 1).toInt → vp_in (M 8 j) 12) : ∀ j : Nat, (j : Int) < ((r_Mod_throwing M h k q).2 0 1).toInt → vp_in ((r_Mod_throwing M h k q).2 8 j) 12 := by
  rw [(thr_tab M h k q).2 0, (thr_tab M h k q).1 7]
  exact hpl
theorem upd_lt {f : Nat → Int32} {h x x1 : Int32} {n : Nat} (hf : ∀ j : Nat, (j : Int) < h.toInt → vp_in (f j) n) (hh : vp_in h 6) (hx : vp_in x n) (e1 : x1 = h + 1) : ∀ j : Nat, (j : Int) < x1.toInt → vp_in (upd f h.toNatClampNeg x j) n := by
  intro j hj
  rw [e1, toInt_s hh (by decide)] at hj
  unfold upd
  split
  · exact hx
  · rename_i hne
    refine hf j ?_
    have h1 := vp_in_iff.mp hh
    have e : ((h.toNatClampNeg : Nat) : Int) = h.toInt := by
      show ((h.toInt.toNat : Nat) : Int) = h.toInt
      omega
    omega
def q_Mod_takePlan  : Nat → Int32 → (Nat → Nat → Int32) → Nat → Nat → Int32
  | 0, _, M => M
  | n + 1, h, M => if M 0 1 ≤ h then (let f_2 : Int32 := (r_Mod_workOut M (M 0 1)).1; (r_Mod_workOut M (M 0 1)).2) else (let f_3 : Int32 := M 8 h.toNatClampNeg; let x_4 : Int32 := h + 1; q_Mod_takePlan n x_4 (tb [M 0, M 1, M 2, M 3, M 4, M 5, M 6, M 7, M 8, upd (M 9) h.toNatClampNeg f_3, M 10, M 11, M 12, M 13]))
set_option maxHeartbeats 4000000 in
set_option maxRecDepth 100000 in
theorem lp_Mod_takePlan {l : Launch} {D : va_G} {cA cZ cL : ClassId} (a : Nat) (d : Nat → Nat)  {p : Program} {e : Env} {s : State} {m : MethodId} {args : Array Value} {below : List Frame} {meth : Method} {c : Code} {A : Nat → Prop} (hx : p.tables.exec = Jvm.exec) (hb : c.code = c_Mod_takePlan) (hr : meth.sig.returnType = none) (hml : c.maxLocals = 2) (hts : ∀ w ∈ base, w.before args s = true) (hown : s.vm.findClass R_Mod = some m.cls) (hlocks : meth.locks = false) (hK : va_K D cls (tys3 cA cZ cL) s) (hZ : hz s) (hA : ∀ q : Nat, s.heap.size ≤ q → A q) :
    ∀ (n : Nat) (h : Int32) (M : (Nat → Nat → Int32)), ((0 ≤ h.toInt ∧ h.toInt ≤ 6 ∧ 7 < h.toInt + (n : Int)) ∧ (∃ n : Nat, n ≤ 6 ∧ M 0 1 = nI n) ∧ (∀ j, vp_in (M 1 j) 6) ∧ (∀ j : Nat, (j : Int) < (M 0 1).toInt → vp_in (M 8 j) 12) ∧ (∀ j : Nat, (j : Int) < h.toInt → vp_in (M 9 j) 12)) → ∀ (H : Heap) (locs : List Loc), va_P D cls [(a, .inr (4, [.int (M 0 0), .int (M 0 1), .ref (d 1), .ref (d 2), .ref (d 3), .ref (d 4), .ref (d 5), .ref (d 6), .int (M 0 2), .int (M 0 3), .int (M 0 4), .int (M 0 5), .int (M 0 6), .int (M 0 7), .int (M 0 8), .ref (d 7), .int (M 0 9), .int (M 0 10), .int (M 0 11), .int (M 0 12), .ref (d 8), .ref (d 9), .ref (d 10), .ref (d 11), .ref (d 12), .ref (d 13), .int (M 0 13), .int (M 0 14), .int (M 0 15)])), (d 1, .inl (cA, 6, .inl (M 1))), (d 2, .inl (cA, 6, .inl (M 2))), (d 3, .inl (cA, 6, .inl (M 3))), (d 4, .inl (cA, 6, .inl (M 4))), (d 5, .inl (cA, 6, .inl (M 5))), (d 6, .inl (cA, 6, .inl (M 6))), (d 7, .inl (cA, 36, .inl (M 7))), (d 8, .inl (cA, 6, .inl (M 8))), (d 9, .inl (cA, 7, .inl (M 9))), (d 10, .inl (cA, 6, .inl (M 10))), (d 11, .inl (cA, 6, .inl (M 11))), (d 12, .inl (cA, 6, .inl (M 12))), (d 13, .inl (cZ, 6, .inl (M 13)))] H → va_D A [(a, .inr (4, [.int (M 0 0), .int (M 0 1), .ref (d 1), .ref (d 2), .ref (d 3), .ref (d 4), .ref (d 5), .ref (d 6), .int (M 0 2), .int (M 0 3), .int (M 0 4), .int (M 0 5), .int (M 0 6), .int (M 0 7), .int (M 0 8), .ref (d 7), .int (M 0 9), .int (M 0 10), .int (M 0 11), .int (M 0 12), .ref (d 8), .ref (d 9), .ref (d 10), .ref (d 11), .ref (d 12), .ref (d 13), .int (M 0 13), .int (M 0 14), .int (M 0 15)])), (d 1, .inl (cA, 6, .inl (M 1))), (d 2, .inl (cA, 6, .inl (M 2))), (d 3, .inl (cA, 6, .inl (M 3))), (d 4, .inl (cA, 6, .inl (M 4))), (d 5, .inl (cA, 6, .inl (M 5))), (d 6, .inl (cA, 6, .inl (M 6))), (d 7, .inl (cA, 36, .inl (M 7))), (d 8, .inl (cA, 6, .inl (M 8))), (d 9, .inl (cA, 7, .inl (M 9))), (d 10, .inl (cA, 6, .inl (M 10))), (d 11, .inl (cA, 6, .inl (M 11))), (d 12, .inl (cA, 6, .inl (M 12))), (d 13, .inl (cZ, 6, .inl (M 13)))] → va_S A s.heap H locs → ∀ ls : Array Slot, lv_has ls 2 [(1, .int h), (0, .ref a)] → W p l e ({ frames := 2, cells := 0, slots := 0, locals := 54 } : Room) s m args below meth c H locs 0 0 (MQ below (va_Qv (fun (_ : Unit) => True) (fun _ => hw_At D cls (tys3 cA cZ cL) A (wMod cA cZ a d (q_Mod_takePlan n h M))) A) args s 0 0 A) (F0 m 2 ls []) := by
  intro n
  induction n with
  | zero =>
    intro h M hi
    exact absurd hi (by rintro ⟨h, -⟩; omega)
  | succ n ih =>
    intro h M hi H locs hP hD hS ls hl
    refine lv_iload_n hx hb d_Mod_takePlan_2 rfl (lv_at hl 0 rfl) ?_
    refine lv_aload_n hx hb d_Mod_takePlan_3 rfl (lv_at hl 1 rfl) ?_
    refine va_get (D := D) (ci := 4) (v := .int (M 0 1)) (C := R_Mod) (T := T_Mod) (N := 29) hx hb hts i_Mod hown hK hP 0 rfl rfl 1 (by decide) (hts _ mb_524) (fun _ h9 => h9) rfl d_Mod_takePlan_4 ?_
    refine lv_icmp_ge (tgt := 28) hx hb d_Mod_takePlan_7 (by decide) (fun c_1 => ?_) (fun c_1 => ?_)
    · skip
      refine lv_aload_n hx hb d_Mod_takePlan_28 rfl (lv_at hl 1 rfl) ?_
      refine lv_aload_n hx hb d_Mod_takePlan_29 rfl (lv_at hl 1 rfl) ?_
      refine va_get (D := D) (ci := 4) (v := .int (M 0 1)) (C := R_Mod) (T := T_Mod) (N := 29) hx hb hts i_Mod hown hK hP 0 rfl rfl 1 (by decide) (hts _ mb_524) (fun _ h9 => h9) rfl d_Mod_takePlan_30 ?_
      refine hw_callVi (C := R_Mod) (T := T_Mod) (N := 29) (wr := []) (As := [.int (M 0 1)]) (rest := []) ⟨hx, hb, hml, hown, hts⟩ (k_Mod_workOut l D cA cZ cL a d M (M 0 1) (in7_N hi.2.1) hi.2.2.1 (fun j hj => hi.2.2.2.2 j (Int.lt_of_lt_of_le hj (Int32.le_iff_toInt_le.mp c_1)))) (bv_V 1 hts mb_663 (hts _ mb_5) (hts _ mb_660) (hts _ mb_662) (hts _ mbp_13) (by decide +kernel) ⟨Nat.le_of_ble_eq_true rfl, Nat.le_of_ble_eq_true rfl⟩) hK hZ hP hD hS hA [0, 1, 2, 3, 4, 5, 6, 7, 8, 9, 10, 11, 12, 13] [] rfl rfl (by decide) (by decide) (by decide) 0 4 rfl rfl rfl hl.1 rfl (lv_room (Nat.le_of_ble_eq_true rfl)) d_Mod_takePlan_33 ⟨Nat.zero_le _, Nat.zero_le _⟩ (fun H locs hP hD hS => ?_)
      have hP : va_P D cls [(a, .inr (4, [.int ((r_Mod_workOut M (M 0 1)).2 0 0), .int ((r_Mod_workOut M (M 0 1)).2 0 1), .ref (d 1), .ref (d 2), .ref (d 3), .ref (d 4), .ref (d 5), .ref (d 6), .int ((r_Mod_workOut M (M 0 1)).2 0 2), .int ((r_Mod_workOut M (M 0 1)).2 0 3), .int ((r_Mod_workOut M (M 0 1)).2 0 4), .int ((r_Mod_workOut M (M 0 1)).2 0 5), .int ((r_Mod_workOut M (M 0 1)).2 0 6), .int ((r_Mod_workOut M (M 0 1)).2 0 7), .int ((r_Mod_workOut M (M 0 1)).2 0 8), .ref (d 7), .int ((r_Mod_workOut M (M 0 1)).2 0 9), .int ((r_Mod_workOut M (M 0 1)).2 0 10), .int ((r_Mod_workOut M (M 0 1)).2 0 11), .int ((r_Mod_workOut M (M 0 1)).2 0 12), .ref (d 8), .ref (d 9), .ref (d 10), .ref (d 11), .ref (d 12), .ref (d 13), .int ((r_Mod_workOut M (M 0 1)).2 0 13), .int ((r_Mod_workOut M (M 0 1)).2 0 14), .int ((r_Mod_workOut M (M 0 1)).2 0 15)])), (d 1, .inl (cA, 6, .inl ((r_Mod_workOut M (M 0 1)).2 1))), (d 2, .inl (cA, 6, .inl ((r_Mod_workOut M (M 0 1)).2 2))), (d 3, .inl (cA, 6, .inl ((r_Mod_workOut M (M 0 1)).2 3))), (d 4, .inl (cA, 6, .inl ((r_Mod_workOut M (M 0 1)).2 4))), (d 5, .inl (cA, 6, .inl ((r_Mod_workOut M (M 0 1)).2 5))), (d 6, .inl (cA, 6, .inl ((r_Mod_workOut M (M 0 1)).2 6))), (d 7, .inl (cA, 36, .inl ((r_Mod_workOut M (M 0 1)).2 7))), (d 8, .inl (cA, 6, .inl ((r_Mod_workOut M (M 0 1)).2 8))), (d 9, .inl (cA, 7, .inl ((r_Mod_workOut M (M 0 1)).2 9))), (d 10, .inl (cA, 6, .inl ((r_Mod_workOut M (M 0 1)).2 10))), (d 11, .inl (cA, 6, .inl ((r_Mod_workOut M (M 0 1)).2 11))), (d 12, .inl (cA, 6, .inl ((r_Mod_workOut M (M 0 1)).2 12))), (d 13, .inl (cZ, 6, .inl ((r_Mod_workOut M (M 0 1)).2 13)))] H := hP
      have hD : va_D A [(a, .inr (4, [.int ((r_Mod_workOut M (M 0 1)).2 0 0), .int ((r_Mod_workOut M (M 0 1)).2 0 1), .ref (d 1), .ref (d 2), .ref (d 3), .ref (d 4), .ref (d 5), .ref (d 6), .int ((r_Mod_workOut M (M 0 1)).2 0 2), .int ((r_Mod_workOut M (M 0 1)).2 0 3), .int ((r_Mod_workOut M (M 0 1)).2 0 4), .int ((r_Mod_workOut M (M 0 1)).2 0 5), .int ((r_Mod_workOut M (M 0 1)).2 0 6), .int ((r_Mod_workOut M (M 0 1)).2 0 7), .int ((r_Mod_workOut M (M 0 1)).2 0 8), .ref (d 7), .int ((r_Mod_workOut M (M 0 1)).2 0 9), .int ((r_Mod_workOut M (M 0 1)).2 0 10), .int ((r_Mod_workOut M (M 0 1)).2 0 11), .int ((r_Mod_workOut M (M 0 1)).2 0 12), .ref (d 8), .ref (d 9), .ref (d 10), .ref (d 11), .ref (d 12), .ref (d 13), .int ((r_Mod_workOut M (M 0 1)).2 0 13), .int ((r_Mod_workOut M (M 0 1)).2 0 14), .int ((r_Mod_workOut M (M 0 1)).2 0 15)])), (d 1, .inl (cA, 6, .inl ((r_Mod_workOut M (M 0 1)).2 1))), (d 2, .inl (cA, 6, .inl ((r_Mod_workOut M (M 0 1)).2 2))), (d 3, .inl (cA, 6, .inl ((r_Mod_workOut M (M 0 1)).2 3))), (d 4, .inl (cA, 6, .inl ((r_Mod_workOut M (M 0 1)).2 4))), (d 5, .inl (cA, 6, .inl ((r_Mod_workOut M (M 0 1)).2 5))), (d 6, .inl (cA, 6, .inl ((r_Mod_workOut M (M 0 1)).2 6))), (d 7, .inl (cA, 36, .inl ((r_Mod_workOut M (M 0 1)).2 7))), (d 8, .inl (cA, 6, .inl ((r_Mod_workOut M (M 0 1)).2 8))), (d 9, .inl (cA, 7, .inl ((r_Mod_workOut M (M 0 1)).2 9))), (d 10, .inl (cA, 6, .inl ((r_Mod_workOut M (M 0 1)).2 10))), (d 11, .inl (cA, 6, .inl ((r_Mod_workOut M (M 0 1)).2 11))), (d 12, .inl (cA, 6, .inl ((r_Mod_workOut M (M 0 1)).2 12))), (d 13, .inl (cZ, 6, .inl ((r_Mod_workOut M (M 0 1)).2 13)))] := hD
      refine lv_topi (fun f_2 ef_2 => ?_)
      refine lv_pop hx hb d_Mod_takePlan_36 rfl ?_
      have e9 : q_Mod_takePlan (n + 1) h M = (r_Mod_workOut M (M 0 1)).2 := by
        subst ef_2; rw [q_Mod_takePlan]; simp only [if_pos c_1]
      exact W.vret hx hb hr (fun t ht hW => ⟨⟨(), rfl, trivial, (by rw [e9, ht]; exact hP.sub [0, 1, 2, 3, 4, 5, 6, 7, 8, 9, 10, 11, 12, 13] rfl), (by rw [e9]; exact hD.sub [0, 1, 2, 3, 4, 5, 6, 7, 8, 9, 10, 11, 12, 13] (by decide) rfl)⟩, hS.F ht⟩) hS.2.2 d_Mod_takePlan_37
    · skip
      have hlt := lt_of c_1
      have hh6 : vp_in h 6 := in_lt hi.2.1 hi.1.1 c_1
      refine lv_aload_n hx hb d_Mod_takePlan_10 rfl (lv_at hl 1 rfl) ?_
      refine va_get (D := D) (ci := 4) (v := .ref (d 9)) (C := R_Mod) (T := T_Mod) (N := 29) hx hb hts i_Mod hown hK hP 0 rfl rfl 21 (by decide) (hts _ mb_544) (fun _ h9 => h9) rfl d_Mod_takePlan_11 ?_
      refine lv_iload_n hx hb d_Mod_takePlan_14 rfl (lv_at hl 0 rfl) ?_
      refine lv_aload_n hx hb d_Mod_takePlan_15 rfl (lv_at hl 1 rfl) ?_
      refine va_get (D := D) (ci := 4) (v := .ref (d 8)) (C := R_Mod) (T := T_Mod) (N := 29) hx hb hts i_Mod hown hK hP 0 rfl rfl 20 (by decide) (hts _ mb_543) (fun _ h9 => h9) rfl d_Mod_takePlan_16 ?_
      refine lv_iload_n hx hb d_Mod_takePlan_19 rfl (lv_at hl 0 rfl) ?_
      refine va_iald hx hb hK hP 8 0 rfl rfl hh6 d_Mod_takePlan_20 ?_
      refine lv_topi (fun f_3 ef_3 => ?_)
      refine va_iast hx hb hK hP hD hS 9 0 rfl rfl (in_le hh6 (by decide)) d_Mod_takePlan_21 (fun H locs hP hD hS => ?_)
      have hP : va_P D cls [(a, .inr (4, [.int (M 0 0), .int (M 0 1), .ref (d 1), .ref (d 2), .ref (d 3), .ref (d 4), .ref (d 5), .ref (d 6), .int (M 0 2), .int (M 0 3), .int (M 0 4), .int (M 0 5), .int (M 0 6), .int (M 0 7), .int (M 0 8), .ref (d 7), .int (M 0 9), .int (M 0 10), .int (M 0 11), .int (M 0 12), .ref (d 8), .ref (d 9), .ref (d 10), .ref (d 11), .ref (d 12), .ref (d 13), .int (M 0 13), .int (M 0 14), .int (M 0 15)])), (d 1, .inl (cA, 6, .inl (M 1))), (d 2, .inl (cA, 6, .inl (M 2))), (d 3, .inl (cA, 6, .inl (M 3))), (d 4, .inl (cA, 6, .inl (M 4))), (d 5, .inl (cA, 6, .inl (M 5))), (d 6, .inl (cA, 6, .inl (M 6))), (d 7, .inl (cA, 36, .inl (M 7))), (d 8, .inl (cA, 6, .inl (M 8))), (d 9, .inl (cA, 7, .inl (upd (M 9) h.toNatClampNeg f_3))), (d 10, .inl (cA, 6, .inl (M 10))), (d 11, .inl (cA, 6, .inl (M 11))), (d 12, .inl (cA, 6, .inl (M 12))), (d 13, .inl (cZ, 6, .inl (M 13)))] H := hP
      have hD : va_D A [(a, .inr (4, [.int (M 0 0), .int (M 0 1), .ref (d 1), .ref (d 2), .ref (d 3), .ref (d 4), .ref (d 5), .ref (d 6), .int (M 0 2), .int (M 0 3), .int (M 0 4), .int (M 0 5), .int (M 0 6), .int (M 0 7), .int (M 0 8), .ref (d 7), .int (M 0 9), .int (M 0 10), .int (M 0 11), .int (M 0 12), .ref (d 8), .ref (d 9), .ref (d 10), .ref (d 11), .ref (d 12), .ref (d 13), .int (M 0 13), .int (M 0 14), .int (M 0 15)])), (d 1, .inl (cA, 6, .inl (M 1))), (d 2, .inl (cA, 6, .inl (M 2))), (d 3, .inl (cA, 6, .inl (M 3))), (d 4, .inl (cA, 6, .inl (M 4))), (d 5, .inl (cA, 6, .inl (M 5))), (d 6, .inl (cA, 6, .inl (M 6))), (d 7, .inl (cA, 36, .inl (M 7))), (d 8, .inl (cA, 6, .inl (M 8))), (d 9, .inl (cA, 7, .inl (upd (M 9) h.toNatClampNeg f_3))), (d 10, .inl (cA, 6, .inl (M 10))), (d 11, .inl (cA, 6, .inl (M 11))), (d 12, .inl (cA, 6, .inl (M 12))), (d 13, .inl (cZ, 6, .inl (M 13)))] := hD
      obtain ⟨x_4, ex_4⟩ : ∃ y : Int32, y = h + 1 := ⟨_, rfl⟩
      refine lv_iinc (v := x_4) (lv' := [(1, .int x_4), (0, .ref a)]) hx hb d_Mod_takePlan_22 hl (k := 0) rfl (by rw [ex_4]; rfl) (by decide) rfl (fun ls hl => ?_)
      refine lv_goto (tgt := 2) hx hb d_Mod_takePlan_25 (by decide) ?_
      have e9 : q_Mod_takePlan (n + 1) h M = q_Mod_takePlan n x_4 (tb [M 0, M 1, M 2, M 3, M 4, M 5, M 6, M 7, M 8, upd (M 9) h.toNatClampNeg f_3, M 10, M 11, M 12, M 13]) := by
        subst ef_3 ex_4; rw [q_Mod_takePlan]; simp only [if_neg c_1]
      rw [e9]
      exact ih x_4 (tb [M 0, M 1, M 2, M 3, M 4, M 5, M 6, M 7, M 8, upd (M 9) h.toNatClampNeg f_3, M 10, M 11, M 12, M 13]) ⟨by rw [ex_4, toInt_s hh6 (by decide)]; have h8 := vp_in_iff.mp hh6; omega, hi.2.1, hi.2.2.1, hi.2.2.2.1, upd_lt hi.2.2.2.2 hh6 (by rw [ef_3]; exact hi.2.2.2.1 _ (cl_lt hh6 hlt)) ex_4⟩ _ _ (hP.sub [0, 1, 2, 3, 4, 5, 6, 7, 8, 9, 10, 11, 12, 13] rfl) (hD.sub [0, 1, 2, 3, 4, 5, 6, 7, 8, 9, 10, 11, 12, 13] (by decide) rfl) hS _ (lv_sub hl [0, 1] rfl)
def r_Mod_takePlan (M : Nat → Nat → Int32) : Nat → Nat → Int32 := q_Mod_takePlan 8 0 M
set_option maxHeartbeats 4000000 in
set_option maxRecDepth 100000 in
theorem k_Mod_takePlan (l : Launch) (D : va_G) (cA cZ cL : ClassId) (a : Nat) (d : Nat → Nat) (M : Nat → Nat → Int32) (hN : ∃ n : Nat, n ≤ 6 ∧ M 0 1 = nI n) (hG : ∀ j, vp_in (M 1 j) 6) (hpl : ∀ j : Nat, (j : Int) < (M 0 1).toInt → vp_in (M 8 j) 12) : MetV l y_Mod_takePlan (Cond.code y_Mod_takePlan c_Mod_takePlan 2 none :: base) ({ frames := 2, cells := 0, slots := 0, locals := 54 } : Room) D cls (tys3 cA cZ cL) ([.ref a]) (wMod cA cZ a d M) (wMod cA cZ a d (r_Mod_takePlan M)) := by
  intro sz
  refine Met.ofW (cc := c_Mod_takePlan) (maxL := 2) (ret := none) (by decide) rfl ?_
  intro p e s m args below meth c s₁ B hml hv
  obtain ⟨rfl, hsz, hP, hK, hZ, hD0⟩ := hv
  have hx := B.exec
  have hb := B.bytes
  have hr := B.returns
  have hts0 := atoms_spec (ws := (Cond.code y_Mod_takePlan c_Mod_takePlan 2 none :: base)) B.pre
  have hts : ∀ w ∈ base, w.before _ s = true := fun w h => hts0 w (List.mem_cons_of_mem _ h)
  have hown : s.vm.findClass R_Mod = some m.cls := findClass_of_methodNamed B.named
  have hlocks := B.notSynchronized
  have hP : va_P D cls [(a, .inr (4, [.int (M 0 0), .int (M 0 1), .ref (d 1), .ref (d 2), .ref (d 3), .ref (d 4), .ref (d 5), .ref (d 6), .int (M 0 2), .int (M 0 3), .int (M 0 4), .int (M 0 5), .int (M 0 6), .int (M 0 7), .int (M 0 8), .ref (d 7), .int (M 0 9), .int (M 0 10), .int (M 0 11), .int (M 0 12), .ref (d 8), .ref (d 9), .ref (d 10), .ref (d 11), .ref (d 12), .ref (d 13), .int (M 0 13), .int (M 0 14), .int (M 0 15)])), (d 1, .inl (cA, 6, .inl (M 1))), (d 2, .inl (cA, 6, .inl (M 2))), (d 3, .inl (cA, 6, .inl (M 3))), (d 4, .inl (cA, 6, .inl (M 4))), (d 5, .inl (cA, 6, .inl (M 5))), (d 6, .inl (cA, 6, .inl (M 6))), (d 7, .inl (cA, 36, .inl (M 7))), (d 8, .inl (cA, 6, .inl (M 8))), (d 9, .inl (cA, 7, .inl (M 9))), (d 10, .inl (cA, 6, .inl (M 10))), (d 11, .inl (cA, 6, .inl (M 11))), (d 12, .inl (cA, 6, .inl (M 12))), (d 13, .inl (cZ, 6, .inl (M 13)))] s.heap := hP
  subst hsz
  have hD := hD0.self (sz := s.heap.size)
  generalize hAe : va_A (wMod cA cZ a d M) s.heap.size = A at hD ⊢
  have hA : ∀ q : Nat, s.heap.size ≤ q → A q := fun q h => by rw [← hAe]; exact Or.inr h
  have hS : va_S A s.heap s.heap [] := va_S.rf
  have hD : va_D A [(a, .inr (4, [.int (M 0 0), .int (M 0 1), .ref (d 1), .ref (d 2), .ref (d 3), .ref (d 4), .ref (d 5), .ref (d 6), .int (M 0 2), .int (M 0 3), .int (M 0 4), .int (M 0 5), .int (M 0 6), .int (M 0 7), .int (M 0 8), .ref (d 7), .int (M 0 9), .int (M 0 10), .int (M 0 11), .int (M 0 12), .ref (d 8), .ref (d 9), .ref (d 10), .ref (d 11), .ref (d 12), .ref (d 13), .int (M 0 13), .int (M 0 14), .int (M 0 15)])), (d 1, .inl (cA, 6, .inl (M 1))), (d 2, .inl (cA, 6, .inl (M 2))), (d 3, .inl (cA, 6, .inl (M 3))), (d 4, .inl (cA, 6, .inl (M 4))), (d 5, .inl (cA, 6, .inl (M 5))), (d 6, .inl (cA, 6, .inl (M 6))), (d 7, .inl (cA, 36, .inl (M 7))), (d 8, .inl (cA, 6, .inl (M 8))), (d 9, .inl (cA, 7, .inl (M 9))), (d 10, .inl (cA, 6, .inl (M 10))), (d 11, .inl (cA, 6, .inl (M 11))), (d 12, .inl (cA, 6, .inl (M 12))), (d 13, .inl (cZ, 6, .inl (M 13)))] := hD
  have hl := lv_entry ([.ref a]) (n := 2) (Nat.le_of_ble_eq_true rfl)
  rw [lg_entry_eq]
  generalize (lg_sl ([.ref a]) ++ List.replicate (2 - (lg_sl ([.ref a])).length) Slot.unset).toArray = ls at hl ⊢
  have hl : lv_has ls 2 [(0, .ref a)] := hl
  refine lv_iconst (v := 0) hx hb d_Mod_takePlan_0 (by decide) ?_
  refine lv_istore_n (lv' := [(1, .int 0), (0, .ref a)]) hx hb d_Mod_takePlan_1 rfl hl (by decide) rfl (fun ls hl => ?_)
  have e9 : r_Mod_takePlan M = q_Mod_takePlan 8 0 M := by
    rfl
  rw [e9]
  exact (lp_Mod_takePlan a d  hx hb hr hml hts hown hlocks hK hZ hA 8) 0 M ⟨by decide, hN, hG, hpl, fun j hj => absurd hj (by show ¬ (j : Int) < 0; omega)⟩ _ _ (hP.sub [0, 1, 2, 3, 4, 5, 6, 7, 8, 9, 10, 11, 12, 13] rfl) (hD.sub [0, 1, 2, 3, 4, 5, 6, 7, 8, 9, 10, 11, 12, 13] (by decide) rfl) hS _ (lv_sub hl [0, 1] rfl)
