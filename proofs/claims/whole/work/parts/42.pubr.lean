/-! the class' public methods that throw: run, planned, step, told, tell -/
def r_Ord_run (y x : Nat → Int32) (P Q S : Nat → Nat → Int32) (v0 : Int32) : Nat × Int32 × TC := lt (r_Ord_within v0 0 100000) fun (f_1 : Int32) => if f_1 = 0 then ((2, 0, y, x, P, Q, S)) else (if (r_Srch_findBest S P x v0).1 3 = 0 then ((0, (-1), (tv [0, 1]), (r_Srch_findBest S P x v0).1, (r_Srch_findBest S P x v0).2, Q, S)) else (lt ((r_Plan_lay S Q ((r_Srch_findBest S P x v0).1 4) (S 0 0)).1) fun (f_5 : Int32) => if f_5 = 0 then ((0, (-1), (tv [0, 1]), (r_Srch_findBest S P x v0).1, (r_Srch_findBest S P x v0).2, (r_Plan_lay S Q ((r_Srch_findBest S P x v0).1 4) (S 0 0)).2, S)) else (lt (r_Plan_costOf S ((r_Plan_lay S Q ((r_Srch_findBest S P x v0).1 4) (S 0 0)).2) (S 0 0)) fun (f_9 : Int32) => (0, f_9, (tv [1, 1]), (r_Srch_findBest S P x v0).1, (r_Srch_findBest S P x v0).2, (r_Plan_lay S Q ((r_Srch_findBest S P x v0).1 4) (S 0 0)).2, S))))
set_option maxHeartbeats 4000000 in
set_option maxRecDepth 100000 in
theorem k_Ord_run (l : Launch) (D : va_G) (cA cZ cL : ClassId) (u b o aa a : Nat) (d f g : Nat → Nat) (y x : Nat → Int32) (P Q S : Nat → Nat → Int32) (v0 : Int32) (htr : l.stackTraces = false) (hG : ∀ j, vp_in (S 1 j) 6) (hN : ∃ n : Nat, n ≤ 6 ∧ S 0 0 = nI n) (hp : ∀ j, vp_in (P 0 j) 6) (hq : ∀ j, vp_in (Q 0 j) 6) : MetX l y_Ord_run (Cond.code y_Ord_run c_Ord_run 2 (some .int) :: base) ({ frames := 13, cells := 1, slots := 6, locals := 314 } : Room) D cls (tys3 cA cZ cL) ([.ref u, .int v0]) (wCls cA u b o aa a d f g y x P Q S) (r_Ord_run y x P Q S v0).1 (some (.int (r_Ord_run y x P Q S v0).2.1)) (wCls cA u b o aa a d f g ((r_Ord_run y x P Q S v0).2.2).1 ((r_Ord_run y x P Q S v0).2.2).2.1 ((r_Ord_run y x P Q S v0).2.2).2.2.1 ((r_Ord_run y x P Q S v0).2.2).2.2.2.1 ((r_Ord_run y x P Q S v0).2.2).2.2.2.2) := by
  refine MetX.ofW (cc := c_Ord_run) (maxL := 2) (ret := (some .int)) (by decide) rfl ?_
  intro sz p e s m args below meth c s₁ B hml hex hv
  obtain ⟨rfl, ⟨hsz, hP, hK, hZ, hD0⟩, hY⟩ := hv
  have hst := hx_nost hP
  have hx := B.exec
  have hb := B.bytes
  have hr := B.returns
  have hts0 := atoms_spec (ws := (Cond.code y_Ord_run c_Ord_run 2 (some .int) :: base)) B.pre
  have hts : ∀ w ∈ base, w.before _ s = true := fun w h => hts0 w (List.mem_cons_of_mem _ h)
  have hown : s.vm.findClass R_Ord = some m.cls := findClass_of_methodNamed B.named
  have hlocks := B.notSynchronized
  have hP : va_P D cls [(u, .inr (3, [.ref b, .ref o, .ref aa, .int (y 0), .int (y 1)])), (o, .inr (1, [.ref b, .ref a, .int (x 0), .int (x 1), .int (x 2), .int (x 3), .int (x 4), .int (x 5)])), (a, .inr (0, [.ref b, .ref (d 0), .ref (d 1), .ref (d 2), .ref (d 3), .ref (d 4), .ref (d 5), .ref (d 6), .ref (d 7), .ref (d 8), .ref (d 9), .ref (d 10)])), (d 0, .inl (cA, 6, .inl (P 0))), (d 1, .inl (cA, 6, .inl (P 1))), (d 2, .inl (cA, 6, .inl (P 2))), (d 3, .inl (cA, 6, .inl (P 3))), (d 4, .inl (cA, 6, .inl (P 4))), (d 5, .inl (cA, 6, .inl (P 5))), (d 6, .inl (cA, 6, .inl (P 6))), (d 7, .inl (cA, 6, .inl (P 7))), (d 8, .inl (cA, 7, .inl (P 8))), (d 9, .inl (cA, 7, .inl (P 9))), (d 10, .inl (cA, 7, .inl (P 10))), (aa, .inr (0, [.ref b, .ref (f 0), .ref (f 1), .ref (f 2), .ref (f 3), .ref (f 4), .ref (f 5), .ref (f 6), .ref (f 7), .ref (f 8), .ref (f 9), .ref (f 10)])), (f 0, .inl (cA, 6, .inl (Q 0))), (f 1, .inl (cA, 6, .inl (Q 1))), (f 2, .inl (cA, 6, .inl (Q 2))), (f 3, .inl (cA, 6, .inl (Q 3))), (f 4, .inl (cA, 6, .inl (Q 4))), (f 5, .inl (cA, 6, .inl (Q 5))), (f 6, .inl (cA, 6, .inl (Q 6))), (f 7, .inl (cA, 6, .inl (Q 7))), (f 8, .inl (cA, 7, .inl (Q 8))), (f 9, .inl (cA, 7, .inl (Q 9))), (f 10, .inl (cA, 7, .inl (Q 10))), (b, .inr (2, [.int (S 0 0), .ref (g 1), .ref (g 2), .ref (g 3), .ref (g 4), .ref (g 5), .ref (g 6), .int (S 0 1), .int (S 0 2), .int (S 0 3), .int (S 0 4), .int (S 0 5), .int (S 0 6), .int (S 0 7), .ref (g 7)])), (g 1, .inl (cA, 6, .inl (S 1))), (g 2, .inl (cA, 6, .inl (S 2))), (g 3, .inl (cA, 6, .inl (S 3))), (g 4, .inl (cA, 6, .inl (S 4))), (g 5, .inl (cA, 6, .inl (S 5))), (g 6, .inl (cA, 6, .inl (S 6))), (g 7, .inl (cA, 36, .inl (S 7)))] s.heap := hP
  subst hsz
  have hD := hD0.self (sz := s.heap.size)
  generalize hAe : va_A (wCls cA u b o aa a d f g y x P Q S) s.heap.size = A at hD hst ⊢
  have hA : ∀ q : Nat, s.heap.size ≤ q → A q := fun q h => by rw [← hAe]; exact Or.inr h
  have hS : va_S A s.heap s.heap [] := va_S.rf
  have hD : va_D A [(u, .inr (3, [.ref b, .ref o, .ref aa, .int (y 0), .int (y 1)])), (o, .inr (1, [.ref b, .ref a, .int (x 0), .int (x 1), .int (x 2), .int (x 3), .int (x 4), .int (x 5)])), (a, .inr (0, [.ref b, .ref (d 0), .ref (d 1), .ref (d 2), .ref (d 3), .ref (d 4), .ref (d 5), .ref (d 6), .ref (d 7), .ref (d 8), .ref (d 9), .ref (d 10)])), (d 0, .inl (cA, 6, .inl (P 0))), (d 1, .inl (cA, 6, .inl (P 1))), (d 2, .inl (cA, 6, .inl (P 2))), (d 3, .inl (cA, 6, .inl (P 3))), (d 4, .inl (cA, 6, .inl (P 4))), (d 5, .inl (cA, 6, .inl (P 5))), (d 6, .inl (cA, 6, .inl (P 6))), (d 7, .inl (cA, 6, .inl (P 7))), (d 8, .inl (cA, 7, .inl (P 8))), (d 9, .inl (cA, 7, .inl (P 9))), (d 10, .inl (cA, 7, .inl (P 10))), (aa, .inr (0, [.ref b, .ref (f 0), .ref (f 1), .ref (f 2), .ref (f 3), .ref (f 4), .ref (f 5), .ref (f 6), .ref (f 7), .ref (f 8), .ref (f 9), .ref (f 10)])), (f 0, .inl (cA, 6, .inl (Q 0))), (f 1, .inl (cA, 6, .inl (Q 1))), (f 2, .inl (cA, 6, .inl (Q 2))), (f 3, .inl (cA, 6, .inl (Q 3))), (f 4, .inl (cA, 6, .inl (Q 4))), (f 5, .inl (cA, 6, .inl (Q 5))), (f 6, .inl (cA, 6, .inl (Q 6))), (f 7, .inl (cA, 6, .inl (Q 7))), (f 8, .inl (cA, 7, .inl (Q 8))), (f 9, .inl (cA, 7, .inl (Q 9))), (f 10, .inl (cA, 7, .inl (Q 10))), (b, .inr (2, [.int (S 0 0), .ref (g 1), .ref (g 2), .ref (g 3), .ref (g 4), .ref (g 5), .ref (g 6), .int (S 0 1), .int (S 0 2), .int (S 0 3), .int (S 0 4), .int (S 0 5), .int (S 0 6), .int (S 0 7), .ref (g 7)])), (g 1, .inl (cA, 6, .inl (S 1))), (g 2, .inl (cA, 6, .inl (S 2))), (g 3, .inl (cA, 6, .inl (S 3))), (g 4, .inl (cA, 6, .inl (S 4))), (g 5, .inl (cA, 6, .inl (S 5))), (g 6, .inl (cA, 6, .inl (S 6))), (g 7, .inl (cA, 36, .inl (S 7)))] := hD
  have hl := lv_entry ([.ref u, .int v0]) (n := 2) (Nat.le_of_ble_eq_true rfl)
  rw [lg_entry_eq]
  generalize (lg_sl ([.ref u, .int v0]) ++ List.replicate (2 - (lg_sl ([.ref u, .int v0])).length) Slot.unset).toArray = ls at hl ⊢
  have hl : lv_has ls 2 [(0, .ref u), (1, .int v0)] := hl
  refine lv_iload_n hx hb d_Ord_run_0 rfl (lv_at hl 1 rfl) ?_
  refine lv_iconst (v := 0) hx hb d_Ord_run_1 (by decide) ?_
  refine lv_ldc (v := 100000) hx hb hown (hts _ mb_411) d_Ord_run_2 ?_
  refine hr_callS (As := [.int v0, .int 0, .int 100000]) (rest := []) ⟨hx, hb, hml, hown, hts⟩ (k_Ord_within l D cA cZ cL v0 0 100000) (bs_S 3 hts mb_239 (hts _ mb_1) (hts _ mb_343) (hts _ mb_238) (by decide +kernel) ⟨Nat.le_of_ble_eq_true rfl, Nat.le_of_ble_eq_true rfl⟩) hK hZ hP [] rfl rfl hl.1 rfl (lv_room (Nat.le_of_ble_eq_true rfl)) d_Ord_run_4 ⟨Nat.zero_le _, Nat.zero_le _⟩ ?_
  refine lv_topi (fun f_1 ef_1 => ?_)
  refine lv_if_ne (tgt := 20) hx hb d_Ord_run_7 (by decide) (fun c_2 => ?_) (fun c_2 => ?_)
  · skip
    refine lv_aload_n hx hb d_Ord_run_20 rfl (lv_at hl 0 rfl) ?_
    refine va_get (D := D) (ci := 3) (v := .ref o) (C := R_Ord) (T := T_Ord) (N := 5) hx hb hts i_Ord hown hK hP 0 rfl rfl 1 (by decide) (hts _ mb_191) (fun _ h9 => h9) rfl d_Ord_run_21 ?_
    refine lv_iload_n hx hb d_Ord_run_24 rfl (lv_at hl 1 rfl) ?_
    refine hw_callVv (C := R_Srch) (T := T_Srch) (N := 8) (wr := [(u, .inr (3, [.ref b, .ref o, .ref aa, .int (y 0), .int (y 1)])), (aa, .inr (0, [.ref b, .ref (f 0), .ref (f 1), .ref (f 2), .ref (f 3), .ref (f 4), .ref (f 5), .ref (f 6), .ref (f 7), .ref (f 8), .ref (f 9), .ref (f 10)])), (f 0, .inl (cA, 6, .inl (Q 0))), (f 1, .inl (cA, 6, .inl (Q 1))), (f 2, .inl (cA, 6, .inl (Q 2))), (f 3, .inl (cA, 6, .inl (Q 3))), (f 4, .inl (cA, 6, .inl (Q 4))), (f 5, .inl (cA, 6, .inl (Q 5))), (f 6, .inl (cA, 6, .inl (Q 6))), (f 7, .inl (cA, 6, .inl (Q 7))), (f 8, .inl (cA, 7, .inl (Q 8))), (f 9, .inl (cA, 7, .inl (Q 9))), (f 10, .inl (cA, 7, .inl (Q 10)))]) (As := [.int v0]) (rest := []) ⟨hx, hb, hml, hown, hts⟩ (k_Srch_findBest l D cA cZ cL o a d b g S P x v0 hG hN hp) (bv_V 1 hts mb_433 (hts _ mb_3) (hts _ mb_430) (hts _ mb_431) (hts _ mb_432) (by decide +kernel) ⟨Nat.le_of_ble_eq_true rfl, Nat.le_of_ble_eq_true rfl⟩) hK hZ hP hD hS hA [1, 2, 3, 4, 5, 6, 7, 8, 9, 10, 11, 12, 13, 26, 27, 28, 29, 30, 31, 32, 33] [0, 14, 15, 16, 17, 18, 19, 20, 21, 22, 23, 24, 25] rfl rfl (by decide) (by decide) (by decide) 1 1 rfl rfl rfl hl.1 rfl (lv_room (Nat.le_of_ble_eq_true rfl)) d_Ord_run_25 ⟨Nat.zero_le _, Nat.zero_le _⟩ (fun H locs hP hD hS => ?_)
    have hP : va_P D cls [(u, .inr (3, [.ref b, .ref o, .ref aa, .int (y 0), .int (y 1)])), (aa, .inr (0, [.ref b, .ref (f 0), .ref (f 1), .ref (f 2), .ref (f 3), .ref (f 4), .ref (f 5), .ref (f 6), .ref (f 7), .ref (f 8), .ref (f 9), .ref (f 10)])), (f 0, .inl (cA, 6, .inl (Q 0))), (f 1, .inl (cA, 6, .inl (Q 1))), (f 2, .inl (cA, 6, .inl (Q 2))), (f 3, .inl (cA, 6, .inl (Q 3))), (f 4, .inl (cA, 6, .inl (Q 4))), (f 5, .inl (cA, 6, .inl (Q 5))), (f 6, .inl (cA, 6, .inl (Q 6))), (f 7, .inl (cA, 6, .inl (Q 7))), (f 8, .inl (cA, 7, .inl (Q 8))), (f 9, .inl (cA, 7, .inl (Q 9))), (f 10, .inl (cA, 7, .inl (Q 10))), (o, .inr (1, [.ref b, .ref a, .int ((r_Srch_findBest S P x v0).1 0), .int ((r_Srch_findBest S P x v0).1 1), .int ((r_Srch_findBest S P x v0).1 2), .int ((r_Srch_findBest S P x v0).1 3), .int ((r_Srch_findBest S P x v0).1 4), .int ((r_Srch_findBest S P x v0).1 5)])), (a, .inr (0, [.ref b, .ref (d 0), .ref (d 1), .ref (d 2), .ref (d 3), .ref (d 4), .ref (d 5), .ref (d 6), .ref (d 7), .ref (d 8), .ref (d 9), .ref (d 10)])), (d 0, .inl (cA, 6, .inl ((r_Srch_findBest S P x v0).2 0))), (d 1, .inl (cA, 6, .inl ((r_Srch_findBest S P x v0).2 1))), (d 2, .inl (cA, 6, .inl ((r_Srch_findBest S P x v0).2 2))), (d 3, .inl (cA, 6, .inl ((r_Srch_findBest S P x v0).2 3))), (d 4, .inl (cA, 6, .inl ((r_Srch_findBest S P x v0).2 4))), (d 5, .inl (cA, 6, .inl ((r_Srch_findBest S P x v0).2 5))), (d 6, .inl (cA, 6, .inl ((r_Srch_findBest S P x v0).2 6))), (d 7, .inl (cA, 6, .inl ((r_Srch_findBest S P x v0).2 7))), (d 8, .inl (cA, 7, .inl ((r_Srch_findBest S P x v0).2 8))), (d 9, .inl (cA, 7, .inl ((r_Srch_findBest S P x v0).2 9))), (d 10, .inl (cA, 7, .inl ((r_Srch_findBest S P x v0).2 10))), (b, .inr (2, [.int (S 0 0), .ref (g 1), .ref (g 2), .ref (g 3), .ref (g 4), .ref (g 5), .ref (g 6), .int (S 0 1), .int (S 0 2), .int (S 0 3), .int (S 0 4), .int (S 0 5), .int (S 0 6), .int (S 0 7), .ref (g 7)])), (g 1, .inl (cA, 6, .inl (S 1))), (g 2, .inl (cA, 6, .inl (S 2))), (g 3, .inl (cA, 6, .inl (S 3))), (g 4, .inl (cA, 6, .inl (S 4))), (g 5, .inl (cA, 6, .inl (S 5))), (g 6, .inl (cA, 6, .inl (S 6))), (g 7, .inl (cA, 36, .inl (S 7)))] H := hP
    have hD : va_D A [(u, .inr (3, [.ref b, .ref o, .ref aa, .int (y 0), .int (y 1)])), (aa, .inr (0, [.ref b, .ref (f 0), .ref (f 1), .ref (f 2), .ref (f 3), .ref (f 4), .ref (f 5), .ref (f 6), .ref (f 7), .ref (f 8), .ref (f 9), .ref (f 10)])), (f 0, .inl (cA, 6, .inl (Q 0))), (f 1, .inl (cA, 6, .inl (Q 1))), (f 2, .inl (cA, 6, .inl (Q 2))), (f 3, .inl (cA, 6, .inl (Q 3))), (f 4, .inl (cA, 6, .inl (Q 4))), (f 5, .inl (cA, 6, .inl (Q 5))), (f 6, .inl (cA, 6, .inl (Q 6))), (f 7, .inl (cA, 6, .inl (Q 7))), (f 8, .inl (cA, 7, .inl (Q 8))), (f 9, .inl (cA, 7, .inl (Q 9))), (f 10, .inl (cA, 7, .inl (Q 10))), (o, .inr (1, [.ref b, .ref a, .int ((r_Srch_findBest S P x v0).1 0), .int ((r_Srch_findBest S P x v0).1 1), .int ((r_Srch_findBest S P x v0).1 2), .int ((r_Srch_findBest S P x v0).1 3), .int ((r_Srch_findBest S P x v0).1 4), .int ((r_Srch_findBest S P x v0).1 5)])), (a, .inr (0, [.ref b, .ref (d 0), .ref (d 1), .ref (d 2), .ref (d 3), .ref (d 4), .ref (d 5), .ref (d 6), .ref (d 7), .ref (d 8), .ref (d 9), .ref (d 10)])), (d 0, .inl (cA, 6, .inl ((r_Srch_findBest S P x v0).2 0))), (d 1, .inl (cA, 6, .inl ((r_Srch_findBest S P x v0).2 1))), (d 2, .inl (cA, 6, .inl ((r_Srch_findBest S P x v0).2 2))), (d 3, .inl (cA, 6, .inl ((r_Srch_findBest S P x v0).2 3))), (d 4, .inl (cA, 6, .inl ((r_Srch_findBest S P x v0).2 4))), (d 5, .inl (cA, 6, .inl ((r_Srch_findBest S P x v0).2 5))), (d 6, .inl (cA, 6, .inl ((r_Srch_findBest S P x v0).2 6))), (d 7, .inl (cA, 6, .inl ((r_Srch_findBest S P x v0).2 7))), (d 8, .inl (cA, 7, .inl ((r_Srch_findBest S P x v0).2 8))), (d 9, .inl (cA, 7, .inl ((r_Srch_findBest S P x v0).2 9))), (d 10, .inl (cA, 7, .inl ((r_Srch_findBest S P x v0).2 10))), (b, .inr (2, [.int (S 0 0), .ref (g 1), .ref (g 2), .ref (g 3), .ref (g 4), .ref (g 5), .ref (g 6), .int (S 0 1), .int (S 0 2), .int (S 0 3), .int (S 0 4), .int (S 0 5), .int (S 0 6), .int (S 0 7), .ref (g 7)])), (g 1, .inl (cA, 6, .inl (S 1))), (g 2, .inl (cA, 6, .inl (S 2))), (g 3, .inl (cA, 6, .inl (S 3))), (g 4, .inl (cA, 6, .inl (S 4))), (g 5, .inl (cA, 6, .inl (S 5))), (g 6, .inl (cA, 6, .inl (S 6))), (g 7, .inl (cA, 36, .inl (S 7)))] := hD
    refine lv_aload_n hx hb d_Ord_run_28 rfl (lv_at hl 0 rfl) ?_
    refine lv_iconst (v := 1) hx hb d_Ord_run_29 (by decide) ?_
    refine va_put (D := D) (ci := 3) (v := .int 1) (ty := .boolean) (C := R_Ord) (T := T_Ord) (N := 5) hx hb hts i_Ord t_Ord t_Ord_ok n_Ord hown hK hP hD hS 0 rfl rfl 4 (by decide) (hts _ mb_194) (fun _ h9 => h9) rfl (by decide +kernel) rfl rfl (Nat.le_of_ble_eq_true rfl) d_Ord_run_30 (fun H locs hP hD hS => ?_)
    have hP : va_P D cls [(u, .inr (3, [.ref b, .ref o, .ref aa, .int (y 0), .int 1])), (aa, .inr (0, [.ref b, .ref (f 0), .ref (f 1), .ref (f 2), .ref (f 3), .ref (f 4), .ref (f 5), .ref (f 6), .ref (f 7), .ref (f 8), .ref (f 9), .ref (f 10)])), (f 0, .inl (cA, 6, .inl (Q 0))), (f 1, .inl (cA, 6, .inl (Q 1))), (f 2, .inl (cA, 6, .inl (Q 2))), (f 3, .inl (cA, 6, .inl (Q 3))), (f 4, .inl (cA, 6, .inl (Q 4))), (f 5, .inl (cA, 6, .inl (Q 5))), (f 6, .inl (cA, 6, .inl (Q 6))), (f 7, .inl (cA, 6, .inl (Q 7))), (f 8, .inl (cA, 7, .inl (Q 8))), (f 9, .inl (cA, 7, .inl (Q 9))), (f 10, .inl (cA, 7, .inl (Q 10))), (o, .inr (1, [.ref b, .ref a, .int ((r_Srch_findBest S P x v0).1 0), .int ((r_Srch_findBest S P x v0).1 1), .int ((r_Srch_findBest S P x v0).1 2), .int ((r_Srch_findBest S P x v0).1 3), .int ((r_Srch_findBest S P x v0).1 4), .int ((r_Srch_findBest S P x v0).1 5)])), (a, .inr (0, [.ref b, .ref (d 0), .ref (d 1), .ref (d 2), .ref (d 3), .ref (d 4), .ref (d 5), .ref (d 6), .ref (d 7), .ref (d 8), .ref (d 9), .ref (d 10)])), (d 0, .inl (cA, 6, .inl ((r_Srch_findBest S P x v0).2 0))), (d 1, .inl (cA, 6, .inl ((r_Srch_findBest S P x v0).2 1))), (d 2, .inl (cA, 6, .inl ((r_Srch_findBest S P x v0).2 2))), (d 3, .inl (cA, 6, .inl ((r_Srch_findBest S P x v0).2 3))), (d 4, .inl (cA, 6, .inl ((r_Srch_findBest S P x v0).2 4))), (d 5, .inl (cA, 6, .inl ((r_Srch_findBest S P x v0).2 5))), (d 6, .inl (cA, 6, .inl ((r_Srch_findBest S P x v0).2 6))), (d 7, .inl (cA, 6, .inl ((r_Srch_findBest S P x v0).2 7))), (d 8, .inl (cA, 7, .inl ((r_Srch_findBest S P x v0).2 8))), (d 9, .inl (cA, 7, .inl ((r_Srch_findBest S P x v0).2 9))), (d 10, .inl (cA, 7, .inl ((r_Srch_findBest S P x v0).2 10))), (b, .inr (2, [.int (S 0 0), .ref (g 1), .ref (g 2), .ref (g 3), .ref (g 4), .ref (g 5), .ref (g 6), .int (S 0 1), .int (S 0 2), .int (S 0 3), .int (S 0 4), .int (S 0 5), .int (S 0 6), .int (S 0 7), .ref (g 7)])), (g 1, .inl (cA, 6, .inl (S 1))), (g 2, .inl (cA, 6, .inl (S 2))), (g 3, .inl (cA, 6, .inl (S 3))), (g 4, .inl (cA, 6, .inl (S 4))), (g 5, .inl (cA, 6, .inl (S 5))), (g 6, .inl (cA, 6, .inl (S 6))), (g 7, .inl (cA, 36, .inl (S 7)))] H := hP
    have hD : va_D A [(u, .inr (3, [.ref b, .ref o, .ref aa, .int (y 0), .int 1])), (aa, .inr (0, [.ref b, .ref (f 0), .ref (f 1), .ref (f 2), .ref (f 3), .ref (f 4), .ref (f 5), .ref (f 6), .ref (f 7), .ref (f 8), .ref (f 9), .ref (f 10)])), (f 0, .inl (cA, 6, .inl (Q 0))), (f 1, .inl (cA, 6, .inl (Q 1))), (f 2, .inl (cA, 6, .inl (Q 2))), (f 3, .inl (cA, 6, .inl (Q 3))), (f 4, .inl (cA, 6, .inl (Q 4))), (f 5, .inl (cA, 6, .inl (Q 5))), (f 6, .inl (cA, 6, .inl (Q 6))), (f 7, .inl (cA, 6, .inl (Q 7))), (f 8, .inl (cA, 7, .inl (Q 8))), (f 9, .inl (cA, 7, .inl (Q 9))), (f 10, .inl (cA, 7, .inl (Q 10))), (o, .inr (1, [.ref b, .ref a, .int ((r_Srch_findBest S P x v0).1 0), .int ((r_Srch_findBest S P x v0).1 1), .int ((r_Srch_findBest S P x v0).1 2), .int ((r_Srch_findBest S P x v0).1 3), .int ((r_Srch_findBest S P x v0).1 4), .int ((r_Srch_findBest S P x v0).1 5)])), (a, .inr (0, [.ref b, .ref (d 0), .ref (d 1), .ref (d 2), .ref (d 3), .ref (d 4), .ref (d 5), .ref (d 6), .ref (d 7), .ref (d 8), .ref (d 9), .ref (d 10)])), (d 0, .inl (cA, 6, .inl ((r_Srch_findBest S P x v0).2 0))), (d 1, .inl (cA, 6, .inl ((r_Srch_findBest S P x v0).2 1))), (d 2, .inl (cA, 6, .inl ((r_Srch_findBest S P x v0).2 2))), (d 3, .inl (cA, 6, .inl ((r_Srch_findBest S P x v0).2 3))), (d 4, .inl (cA, 6, .inl ((r_Srch_findBest S P x v0).2 4))), (d 5, .inl (cA, 6, .inl ((r_Srch_findBest S P x v0).2 5))), (d 6, .inl (cA, 6, .inl ((r_Srch_findBest S P x v0).2 6))), (d 7, .inl (cA, 6, .inl ((r_Srch_findBest S P x v0).2 7))), (d 8, .inl (cA, 7, .inl ((r_Srch_findBest S P x v0).2 8))), (d 9, .inl (cA, 7, .inl ((r_Srch_findBest S P x v0).2 9))), (d 10, .inl (cA, 7, .inl ((r_Srch_findBest S P x v0).2 10))), (b, .inr (2, [.int (S 0 0), .ref (g 1), .ref (g 2), .ref (g 3), .ref (g 4), .ref (g 5), .ref (g 6), .int (S 0 1), .int (S 0 2), .int (S 0 3), .int (S 0 4), .int (S 0 5), .int (S 0 6), .int (S 0 7), .ref (g 7)])), (g 1, .inl (cA, 6, .inl (S 1))), (g 2, .inl (cA, 6, .inl (S 2))), (g 3, .inl (cA, 6, .inl (S 3))), (g 4, .inl (cA, 6, .inl (S 4))), (g 5, .inl (cA, 6, .inl (S 5))), (g 6, .inl (cA, 6, .inl (S 6))), (g 7, .inl (cA, 36, .inl (S 7)))] := hD
    refine lv_aload_n hx hb d_Ord_run_33 rfl (lv_at hl 0 rfl) ?_
    refine lv_aload_n hx hb d_Ord_run_34 rfl (lv_at hl 0 rfl) ?_
    refine va_get (D := D) (ci := 3) (v := .ref o) (C := R_Ord) (T := T_Ord) (N := 5) hx hb hts i_Ord hown hK hP 0 rfl rfl 1 (by decide) (hts _ mb_191) (fun _ h9 => h9) rfl d_Ord_run_35 ?_
    refine va_get (D := D) (ci := 1) (v := .int ((r_Srch_findBest S P x v0).1 3)) (C := R_Srch) (T := T_Srch) (N := 8) hx hb hts i_Srch hown hK hP 13 rfl rfl 5 (by decide) (hts _ mb_167) (fun _ h9 => h9) rfl d_Ord_run_38 ?_
    refine lv_if_eq (tgt := 72) hx hb d_Ord_run_41 (by decide) (fun c_3 => ?_) (fun c_3 => ?_)
    · skip
      refine lv_iconst (v := 0) hx hb d_Ord_run_72 (by decide) ?_
      refine va_put (D := D) (ci := 3) (v := .int 0) (ty := .boolean) (C := R_Ord) (T := T_Ord) (N := 5) hx hb hts i_Ord t_Ord t_Ord_ok n_Ord hown hK hP hD hS 0 rfl rfl 3 (by decide) (hts _ mb_193) (fun _ h9 => h9) rfl (by decide +kernel) rfl rfl (Nat.le_of_ble_eq_true rfl) d_Ord_run_73 (fun H locs hP hD hS => ?_)
      have hP : va_P D cls [(u, .inr (3, [.ref b, .ref o, .ref aa, .int 0, .int 1])), (aa, .inr (0, [.ref b, .ref (f 0), .ref (f 1), .ref (f 2), .ref (f 3), .ref (f 4), .ref (f 5), .ref (f 6), .ref (f 7), .ref (f 8), .ref (f 9), .ref (f 10)])), (f 0, .inl (cA, 6, .inl (Q 0))), (f 1, .inl (cA, 6, .inl (Q 1))), (f 2, .inl (cA, 6, .inl (Q 2))), (f 3, .inl (cA, 6, .inl (Q 3))), (f 4, .inl (cA, 6, .inl (Q 4))), (f 5, .inl (cA, 6, .inl (Q 5))), (f 6, .inl (cA, 6, .inl (Q 6))), (f 7, .inl (cA, 6, .inl (Q 7))), (f 8, .inl (cA, 7, .inl (Q 8))), (f 9, .inl (cA, 7, .inl (Q 9))), (f 10, .inl (cA, 7, .inl (Q 10))), (o, .inr (1, [.ref b, .ref a, .int ((r_Srch_findBest S P x v0).1 0), .int ((r_Srch_findBest S P x v0).1 1), .int ((r_Srch_findBest S P x v0).1 2), .int ((r_Srch_findBest S P x v0).1 3), .int ((r_Srch_findBest S P x v0).1 4), .int ((r_Srch_findBest S P x v0).1 5)])), (a, .inr (0, [.ref b, .ref (d 0), .ref (d 1), .ref (d 2), .ref (d 3), .ref (d 4), .ref (d 5), .ref (d 6), .ref (d 7), .ref (d 8), .ref (d 9), .ref (d 10)])), (d 0, .inl (cA, 6, .inl ((r_Srch_findBest S P x v0).2 0))), (d 1, .inl (cA, 6, .inl ((r_Srch_findBest S P x v0).2 1))), (d 2, .inl (cA, 6, .inl ((r_Srch_findBest S P x v0).2 2))), (d 3, .inl (cA, 6, .inl ((r_Srch_findBest S P x v0).2 3))), (d 4, .inl (cA, 6, .inl ((r_Srch_findBest S P x v0).2 4))), (d 5, .inl (cA, 6, .inl ((r_Srch_findBest S P x v0).2 5))), (d 6, .inl (cA, 6, .inl ((r_Srch_findBest S P x v0).2 6))), (d 7, .inl (cA, 6, .inl ((r_Srch_findBest S P x v0).2 7))), (d 8, .inl (cA, 7, .inl ((r_Srch_findBest S P x v0).2 8))), (d 9, .inl (cA, 7, .inl ((r_Srch_findBest S P x v0).2 9))), (d 10, .inl (cA, 7, .inl ((r_Srch_findBest S P x v0).2 10))), (b, .inr (2, [.int (S 0 0), .ref (g 1), .ref (g 2), .ref (g 3), .ref (g 4), .ref (g 5), .ref (g 6), .int (S 0 1), .int (S 0 2), .int (S 0 3), .int (S 0 4), .int (S 0 5), .int (S 0 6), .int (S 0 7), .ref (g 7)])), (g 1, .inl (cA, 6, .inl (S 1))), (g 2, .inl (cA, 6, .inl (S 2))), (g 3, .inl (cA, 6, .inl (S 3))), (g 4, .inl (cA, 6, .inl (S 4))), (g 5, .inl (cA, 6, .inl (S 5))), (g 6, .inl (cA, 6, .inl (S 6))), (g 7, .inl (cA, 36, .inl (S 7)))] H := hP
      have hD : va_D A [(u, .inr (3, [.ref b, .ref o, .ref aa, .int 0, .int 1])), (aa, .inr (0, [.ref b, .ref (f 0), .ref (f 1), .ref (f 2), .ref (f 3), .ref (f 4), .ref (f 5), .ref (f 6), .ref (f 7), .ref (f 8), .ref (f 9), .ref (f 10)])), (f 0, .inl (cA, 6, .inl (Q 0))), (f 1, .inl (cA, 6, .inl (Q 1))), (f 2, .inl (cA, 6, .inl (Q 2))), (f 3, .inl (cA, 6, .inl (Q 3))), (f 4, .inl (cA, 6, .inl (Q 4))), (f 5, .inl (cA, 6, .inl (Q 5))), (f 6, .inl (cA, 6, .inl (Q 6))), (f 7, .inl (cA, 6, .inl (Q 7))), (f 8, .inl (cA, 7, .inl (Q 8))), (f 9, .inl (cA, 7, .inl (Q 9))), (f 10, .inl (cA, 7, .inl (Q 10))), (o, .inr (1, [.ref b, .ref a, .int ((r_Srch_findBest S P x v0).1 0), .int ((r_Srch_findBest S P x v0).1 1), .int ((r_Srch_findBest S P x v0).1 2), .int ((r_Srch_findBest S P x v0).1 3), .int ((r_Srch_findBest S P x v0).1 4), .int ((r_Srch_findBest S P x v0).1 5)])), (a, .inr (0, [.ref b, .ref (d 0), .ref (d 1), .ref (d 2), .ref (d 3), .ref (d 4), .ref (d 5), .ref (d 6), .ref (d 7), .ref (d 8), .ref (d 9), .ref (d 10)])), (d 0, .inl (cA, 6, .inl ((r_Srch_findBest S P x v0).2 0))), (d 1, .inl (cA, 6, .inl ((r_Srch_findBest S P x v0).2 1))), (d 2, .inl (cA, 6, .inl ((r_Srch_findBest S P x v0).2 2))), (d 3, .inl (cA, 6, .inl ((r_Srch_findBest S P x v0).2 3))), (d 4, .inl (cA, 6, .inl ((r_Srch_findBest S P x v0).2 4))), (d 5, .inl (cA, 6, .inl ((r_Srch_findBest S P x v0).2 5))), (d 6, .inl (cA, 6, .inl ((r_Srch_findBest S P x v0).2 6))), (d 7, .inl (cA, 6, .inl ((r_Srch_findBest S P x v0).2 7))), (d 8, .inl (cA, 7, .inl ((r_Srch_findBest S P x v0).2 8))), (d 9, .inl (cA, 7, .inl ((r_Srch_findBest S P x v0).2 9))), (d 10, .inl (cA, 7, .inl ((r_Srch_findBest S P x v0).2 10))), (b, .inr (2, [.int (S 0 0), .ref (g 1), .ref (g 2), .ref (g 3), .ref (g 4), .ref (g 5), .ref (g 6), .int (S 0 1), .int (S 0 2), .int (S 0 3), .int (S 0 4), .int (S 0 5), .int (S 0 6), .int (S 0 7), .ref (g 7)])), (g 1, .inl (cA, 6, .inl (S 1))), (g 2, .inl (cA, 6, .inl (S 2))), (g 3, .inl (cA, 6, .inl (S 3))), (g 4, .inl (cA, 6, .inl (S 4))), (g 5, .inl (cA, 6, .inl (S 5))), (g 6, .inl (cA, 6, .inl (S 6))), (g 7, .inl (cA, 36, .inl (S 7)))] := hD
      refine lv_aload_n hx hb d_Ord_run_76 rfl (lv_at hl 0 rfl) ?_
      refine va_get (D := D) (ci := 3) (v := .int 0) (C := R_Ord) (T := T_Ord) (N := 5) hx hb hts i_Ord hown hK hP 0 rfl rfl 3 (by decide) (hts _ mb_193) (fun _ h9 => h9) rfl d_Ord_run_77 ?_
      refine lv_if_eq (tgt := 100) hx hb d_Ord_run_80 (by decide) (fun c_4 => ?_) (fun c_4 => ?_)
      · skip
        refine lv_iconst (v := (-1)) hx hb d_Ord_run_100 (by decide) ?_
        have e9 : r_Ord_run y x P Q S v0 = (0, (-1), (tv [0, 1]), (r_Srch_findBest S P x v0).1, (r_Srch_findBest S P x v0).2, Q, S) := by
          unfold r_Ord_run
          refine lt_eq ef_1 ?_
          refine (if_neg c_2).trans ?_
          refine (if_pos c_3).trans ?_
          rfl
        exact hx_ret (by rw [e9]) (Nat.zero_le _) (Nat.zero_le _) (W.iret (v := (-1)) hx hb hr (fun t ht hW => ⟨(by rw [e9]), ⟨(by rw [e9, ht]; try dsimp only; exact hP.sub [0, 13, 14, 15, 16, 17, 18, 19, 20, 21, 22, 23, 24, 25, 1, 2, 3, 4, 5, 6, 7, 8, 9, 10, 11, 12, 26, 27, 28, 29, 30, 31, 32, 33] rfl), (by rw [e9]; try dsimp only; exact hD.sub [0, 13, 14, 15, 16, 17, 18, 19, 20, 21, 22, 23, 24, 25, 1, 2, 3, 4, 5, 6, 7, 8, 9, 10, 11, 12, 26, 27, 28, 29, 30, 31, 32, 33] (by decide) rfl)⟩, hS.F ht⟩) hS.2.2 d_Ord_run_101)
      · exact absurd c_4 (by decide)
    · skip
      refine lv_aload_n hx hb d_Ord_run_44 rfl (lv_at hl 0 rfl) ?_
      refine va_get (D := D) (ci := 3) (v := .ref aa) (C := R_Ord) (T := T_Ord) (N := 5) hx hb hts i_Ord hown hK hP 0 rfl rfl 2 (by decide) (hts _ mb_192) (fun _ h9 => h9) rfl d_Ord_run_45 ?_
      refine lv_aload_n hx hb d_Ord_run_48 rfl (lv_at hl 0 rfl) ?_
      refine va_get (D := D) (ci := 3) (v := .ref o) (C := R_Ord) (T := T_Ord) (N := 5) hx hb hts i_Ord hown hK hP 0 rfl rfl 1 (by decide) (hts _ mb_191) (fun _ h9 => h9) rfl d_Ord_run_49 ?_
      refine va_get (D := D) (ci := 1) (v := .int ((r_Srch_findBest S P x v0).1 4)) (C := R_Srch) (T := T_Srch) (N := 8) hx hb hts i_Srch hown hK hP 13 rfl rfl 6 (by decide) (hts _ mb_169) (fun _ h9 => h9) rfl d_Ord_run_52 ?_
      refine lv_aload_n hx hb d_Ord_run_55 rfl (lv_at hl 0 rfl) ?_
      refine va_get (D := D) (ci := 3) (v := .ref b) (C := R_Ord) (T := T_Ord) (N := 5) hx hb hts i_Ord hown hK hP 0 rfl rfl 0 (by decide) (hts _ mb_190) (fun _ h9 => h9) rfl d_Ord_run_56 ?_
      refine va_get (D := D) (ci := 2) (v := .int (S 0 0)) (C := R_Shop) (T := T_Shop) (N := 15) hx hb hts i_Shop hown hK hP 26 rfl rfl 0 (by decide) (hts _ mb_29) (fun _ h9 => h9) rfl d_Ord_run_59 ?_
      refine hw_callVi (C := R_Plan) (T := T_Plan) (N := 12) (wr := [(u, .inr (3, [.ref b, .ref o, .ref aa, .int (y 0), .int 1])), (o, .inr (1, [.ref b, .ref a, .int ((r_Srch_findBest S P x v0).1 0), .int ((r_Srch_findBest S P x v0).1 1), .int ((r_Srch_findBest S P x v0).1 2), .int ((r_Srch_findBest S P x v0).1 3), .int ((r_Srch_findBest S P x v0).1 4), .int ((r_Srch_findBest S P x v0).1 5)])), (a, .inr (0, [.ref b, .ref (d 0), .ref (d 1), .ref (d 2), .ref (d 3), .ref (d 4), .ref (d 5), .ref (d 6), .ref (d 7), .ref (d 8), .ref (d 9), .ref (d 10)])), (d 0, .inl (cA, 6, .inl ((r_Srch_findBest S P x v0).2 0))), (d 1, .inl (cA, 6, .inl ((r_Srch_findBest S P x v0).2 1))), (d 2, .inl (cA, 6, .inl ((r_Srch_findBest S P x v0).2 2))), (d 3, .inl (cA, 6, .inl ((r_Srch_findBest S P x v0).2 3))), (d 4, .inl (cA, 6, .inl ((r_Srch_findBest S P x v0).2 4))), (d 5, .inl (cA, 6, .inl ((r_Srch_findBest S P x v0).2 5))), (d 6, .inl (cA, 6, .inl ((r_Srch_findBest S P x v0).2 6))), (d 7, .inl (cA, 6, .inl ((r_Srch_findBest S P x v0).2 7))), (d 8, .inl (cA, 7, .inl ((r_Srch_findBest S P x v0).2 8))), (d 9, .inl (cA, 7, .inl ((r_Srch_findBest S P x v0).2 9))), (d 10, .inl (cA, 7, .inl ((r_Srch_findBest S P x v0).2 10)))]) (As := [.int ((r_Srch_findBest S P x v0).1 4), .int (S 0 0)]) (rest := [.ref u]) ⟨hx, hb, hml, hown, hts⟩ (k_Plan_lay l D cA cZ cL aa f b g S Q ((r_Srch_findBest S P x v0).1 4) (S 0 0) hG hq hN) (bv_V 2 hts mb_453 (hts _ mb_4) (hts _ mb_450) (hts _ mb_451) (hts _ mb_452) (by decide +kernel) ⟨Nat.le_of_ble_eq_true rfl, Nat.le_of_ble_eq_true rfl⟩) hK hZ hP hD hS hA [1, 2, 3, 4, 5, 6, 7, 8, 9, 10, 11, 12, 26, 27, 28, 29, 30, 31, 32, 33] [0, 13, 14, 15, 16, 17, 18, 19, 20, 21, 22, 23, 24, 25] rfl rfl (by decide) (by decide) (by decide) 1 0 rfl rfl rfl hl.1 rfl (lv_room (Nat.le_of_ble_eq_true rfl)) d_Ord_run_62 ⟨Nat.zero_le _, Nat.zero_le _⟩ (fun H locs hP hD hS => ?_)
      have hP : va_P D cls [(u, .inr (3, [.ref b, .ref o, .ref aa, .int (y 0), .int 1])), (o, .inr (1, [.ref b, .ref a, .int ((r_Srch_findBest S P x v0).1 0), .int ((r_Srch_findBest S P x v0).1 1), .int ((r_Srch_findBest S P x v0).1 2), .int ((r_Srch_findBest S P x v0).1 3), .int ((r_Srch_findBest S P x v0).1 4), .int ((r_Srch_findBest S P x v0).1 5)])), (a, .inr (0, [.ref b, .ref (d 0), .ref (d 1), .ref (d 2), .ref (d 3), .ref (d 4), .ref (d 5), .ref (d 6), .ref (d 7), .ref (d 8), .ref (d 9), .ref (d 10)])), (d 0, .inl (cA, 6, .inl ((r_Srch_findBest S P x v0).2 0))), (d 1, .inl (cA, 6, .inl ((r_Srch_findBest S P x v0).2 1))), (d 2, .inl (cA, 6, .inl ((r_Srch_findBest S P x v0).2 2))), (d 3, .inl (cA, 6, .inl ((r_Srch_findBest S P x v0).2 3))), (d 4, .inl (cA, 6, .inl ((r_Srch_findBest S P x v0).2 4))), (d 5, .inl (cA, 6, .inl ((r_Srch_findBest S P x v0).2 5))), (d 6, .inl (cA, 6, .inl ((r_Srch_findBest S P x v0).2 6))), (d 7, .inl (cA, 6, .inl ((r_Srch_findBest S P x v0).2 7))), (d 8, .inl (cA, 7, .inl ((r_Srch_findBest S P x v0).2 8))), (d 9, .inl (cA, 7, .inl ((r_Srch_findBest S P x v0).2 9))), (d 10, .inl (cA, 7, .inl ((r_Srch_findBest S P x v0).2 10))), (aa, .inr (0, [.ref b, .ref (f 0), .ref (f 1), .ref (f 2), .ref (f 3), .ref (f 4), .ref (f 5), .ref (f 6), .ref (f 7), .ref (f 8), .ref (f 9), .ref (f 10)])), (f 0, .inl (cA, 6, .inl ((r_Plan_lay S Q ((r_Srch_findBest S P x v0).1 4) (S 0 0)).2 0))), (f 1, .inl (cA, 6, .inl ((r_Plan_lay S Q ((r_Srch_findBest S P x v0).1 4) (S 0 0)).2 1))), (f 2, .inl (cA, 6, .inl ((r_Plan_lay S Q ((r_Srch_findBest S P x v0).1 4) (S 0 0)).2 2))), (f 3, .inl (cA, 6, .inl ((r_Plan_lay S Q ((r_Srch_findBest S P x v0).1 4) (S 0 0)).2 3))), (f 4, .inl (cA, 6, .inl ((r_Plan_lay S Q ((r_Srch_findBest S P x v0).1 4) (S 0 0)).2 4))), (f 5, .inl (cA, 6, .inl ((r_Plan_lay S Q ((r_Srch_findBest S P x v0).1 4) (S 0 0)).2 5))), (f 6, .inl (cA, 6, .inl ((r_Plan_lay S Q ((r_Srch_findBest S P x v0).1 4) (S 0 0)).2 6))), (f 7, .inl (cA, 6, .inl ((r_Plan_lay S Q ((r_Srch_findBest S P x v0).1 4) (S 0 0)).2 7))), (f 8, .inl (cA, 7, .inl ((r_Plan_lay S Q ((r_Srch_findBest S P x v0).1 4) (S 0 0)).2 8))), (f 9, .inl (cA, 7, .inl ((r_Plan_lay S Q ((r_Srch_findBest S P x v0).1 4) (S 0 0)).2 9))), (f 10, .inl (cA, 7, .inl ((r_Plan_lay S Q ((r_Srch_findBest S P x v0).1 4) (S 0 0)).2 10))), (b, .inr (2, [.int (S 0 0), .ref (g 1), .ref (g 2), .ref (g 3), .ref (g 4), .ref (g 5), .ref (g 6), .int (S 0 1), .int (S 0 2), .int (S 0 3), .int (S 0 4), .int (S 0 5), .int (S 0 6), .int (S 0 7), .ref (g 7)])), (g 1, .inl (cA, 6, .inl (S 1))), (g 2, .inl (cA, 6, .inl (S 2))), (g 3, .inl (cA, 6, .inl (S 3))), (g 4, .inl (cA, 6, .inl (S 4))), (g 5, .inl (cA, 6, .inl (S 5))), (g 6, .inl (cA, 6, .inl (S 6))), (g 7, .inl (cA, 36, .inl (S 7)))] H := hP
      have hD : va_D A [(u, .inr (3, [.ref b, .ref o, .ref aa, .int (y 0), .int 1])), (o, .inr (1, [.ref b, .ref a, .int ((r_Srch_findBest S P x v0).1 0), .int ((r_Srch_findBest S P x v0).1 1), .int ((r_Srch_findBest S P x v0).1 2), .int ((r_Srch_findBest S P x v0).1 3), .int ((r_Srch_findBest S P x v0).1 4), .int ((r_Srch_findBest S P x v0).1 5)])), (a, .inr (0, [.ref b, .ref (d 0), .ref (d 1), .ref (d 2), .ref (d 3), .ref (d 4), .ref (d 5), .ref (d 6), .ref (d 7), .ref (d 8), .ref (d 9), .ref (d 10)])), (d 0, .inl (cA, 6, .inl ((r_Srch_findBest S P x v0).2 0))), (d 1, .inl (cA, 6, .inl ((r_Srch_findBest S P x v0).2 1))), (d 2, .inl (cA, 6, .inl ((r_Srch_findBest S P x v0).2 2))), (d 3, .inl (cA, 6, .inl ((r_Srch_findBest S P x v0).2 3))), (d 4, .inl (cA, 6, .inl ((r_Srch_findBest S P x v0).2 4))), (d 5, .inl (cA, 6, .inl ((r_Srch_findBest S P x v0).2 5))), (d 6, .inl (cA, 6, .inl ((r_Srch_findBest S P x v0).2 6))), (d 7, .inl (cA, 6, .inl ((r_Srch_findBest S P x v0).2 7))), (d 8, .inl (cA, 7, .inl ((r_Srch_findBest S P x v0).2 8))), (d 9, .inl (cA, 7, .inl ((r_Srch_findBest S P x v0).2 9))), (d 10, .inl (cA, 7, .inl ((r_Srch_findBest S P x v0).2 10))), (aa, .inr (0, [.ref b, .ref (f 0), .ref (f 1), .ref (f 2), .ref (f 3), .ref (f 4), .ref (f 5), .ref (f 6), .ref (f 7), .ref (f 8), .ref (f 9), .ref (f 10)])), (f 0, .inl (cA, 6, .inl ((r_Plan_lay S Q ((r_Srch_findBest S P x v0).1 4) (S 0 0)).2 0))), (f 1, .inl (cA, 6, .inl ((r_Plan_lay S Q ((r_Srch_findBest S P x v0).1 4) (S 0 0)).2 1))), (f 2, .inl (cA, 6, .inl ((r_Plan_lay S Q ((r_Srch_findBest S P x v0).1 4) (S 0 0)).2 2))), (f 3, .inl (cA, 6, .inl ((r_Plan_lay S Q ((r_Srch_findBest S P x v0).1 4) (S 0 0)).2 3))), (f 4, .inl (cA, 6, .inl ((r_Plan_lay S Q ((r_Srch_findBest S P x v0).1 4) (S 0 0)).2 4))), (f 5, .inl (cA, 6, .inl ((r_Plan_lay S Q ((r_Srch_findBest S P x v0).1 4) (S 0 0)).2 5))), (f 6, .inl (cA, 6, .inl ((r_Plan_lay S Q ((r_Srch_findBest S P x v0).1 4) (S 0 0)).2 6))), (f 7, .inl (cA, 6, .inl ((r_Plan_lay S Q ((r_Srch_findBest S P x v0).1 4) (S 0 0)).2 7))), (f 8, .inl (cA, 7, .inl ((r_Plan_lay S Q ((r_Srch_findBest S P x v0).1 4) (S 0 0)).2 8))), (f 9, .inl (cA, 7, .inl ((r_Plan_lay S Q ((r_Srch_findBest S P x v0).1 4) (S 0 0)).2 9))), (f 10, .inl (cA, 7, .inl ((r_Plan_lay S Q ((r_Srch_findBest S P x v0).1 4) (S 0 0)).2 10))), (b, .inr (2, [.int (S 0 0), .ref (g 1), .ref (g 2), .ref (g 3), .ref (g 4), .ref (g 5), .ref (g 6), .int (S 0 1), .int (S 0 2), .int (S 0 3), .int (S 0 4), .int (S 0 5), .int (S 0 6), .int (S 0 7), .ref (g 7)])), (g 1, .inl (cA, 6, .inl (S 1))), (g 2, .inl (cA, 6, .inl (S 2))), (g 3, .inl (cA, 6, .inl (S 3))), (g 4, .inl (cA, 6, .inl (S 4))), (g 5, .inl (cA, 6, .inl (S 5))), (g 6, .inl (cA, 6, .inl (S 6))), (g 7, .inl (cA, 36, .inl (S 7)))] := hD
      refine lv_topi (fun f_5 ef_5 => ?_)
      refine lv_if_eq (tgt := 72) hx hb d_Ord_run_65 (by decide) (fun c_6 => ?_) (fun c_6 => ?_)
      · skip
        refine lv_iconst (v := 0) hx hb d_Ord_run_72 (by decide) ?_
        refine va_put (D := D) (ci := 3) (v := .int 0) (ty := .boolean) (C := R_Ord) (T := T_Ord) (N := 5) hx hb hts i_Ord t_Ord t_Ord_ok n_Ord hown hK hP hD hS 0 rfl rfl 3 (by decide) (hts _ mb_193) (fun _ h9 => h9) rfl (by decide +kernel) rfl rfl (Nat.le_of_ble_eq_true rfl) d_Ord_run_73 (fun H locs hP hD hS => ?_)
        have hP : va_P D cls [(u, .inr (3, [.ref b, .ref o, .ref aa, .int 0, .int 1])), (o, .inr (1, [.ref b, .ref a, .int ((r_Srch_findBest S P x v0).1 0), .int ((r_Srch_findBest S P x v0).1 1), .int ((r_Srch_findBest S P x v0).1 2), .int ((r_Srch_findBest S P x v0).1 3), .int ((r_Srch_findBest S P x v0).1 4), .int ((r_Srch_findBest S P x v0).1 5)])), (a, .inr (0, [.ref b, .ref (d 0), .ref (d 1), .ref (d 2), .ref (d 3), .ref (d 4), .ref (d 5), .ref (d 6), .ref (d 7), .ref (d 8), .ref (d 9), .ref (d 10)])), (d 0, .inl (cA, 6, .inl ((r_Srch_findBest S P x v0).2 0))), (d 1, .inl (cA, 6, .inl ((r_Srch_findBest S P x v0).2 1))), (d 2, .inl (cA, 6, .inl ((r_Srch_findBest S P x v0).2 2))), (d 3, .inl (cA, 6, .inl ((r_Srch_findBest S P x v0).2 3))), (d 4, .inl (cA, 6, .inl ((r_Srch_findBest S P x v0).2 4))), (d 5, .inl (cA, 6, .inl ((r_Srch_findBest S P x v0).2 5))), (d 6, .inl (cA, 6, .inl ((r_Srch_findBest S P x v0).2 6))), (d 7, .inl (cA, 6, .inl ((r_Srch_findBest S P x v0).2 7))), (d 8, .inl (cA, 7, .inl ((r_Srch_findBest S P x v0).2 8))), (d 9, .inl (cA, 7, .inl ((r_Srch_findBest S P x v0).2 9))), (d 10, .inl (cA, 7, .inl ((r_Srch_findBest S P x v0).2 10))), (aa, .inr (0, [.ref b, .ref (f 0), .ref (f 1), .ref (f 2), .ref (f 3), .ref (f 4), .ref (f 5), .ref (f 6), .ref (f 7), .ref (f 8), .ref (f 9), .ref (f 10)])), (f 0, .inl (cA, 6, .inl ((r_Plan_lay S Q ((r_Srch_findBest S P x v0).1 4) (S 0 0)).2 0))), (f 1, .inl (cA, 6, .inl ((r_Plan_lay S Q ((r_Srch_findBest S P x v0).1 4) (S 0 0)).2 1))), (f 2, .inl (cA, 6, .inl ((r_Plan_lay S Q ((r_Srch_findBest S P x v0).1 4) (S 0 0)).2 2))), (f 3, .inl (cA, 6, .inl ((r_Plan_lay S Q ((r_Srch_findBest S P x v0).1 4) (S 0 0)).2 3))), (f 4, .inl (cA, 6, .inl ((r_Plan_lay S Q ((r_Srch_findBest S P x v0).1 4) (S 0 0)).2 4))), (f 5, .inl (cA, 6, .inl ((r_Plan_lay S Q ((r_Srch_findBest S P x v0).1 4) (S 0 0)).2 5))), (f 6, .inl (cA, 6, .inl ((r_Plan_lay S Q ((r_Srch_findBest S P x v0).1 4) (S 0 0)).2 6))), (f 7, .inl (cA, 6, .inl ((r_Plan_lay S Q ((r_Srch_findBest S P x v0).1 4) (S 0 0)).2 7))), (f 8, .inl (cA, 7, .inl ((r_Plan_lay S Q ((r_Srch_findBest S P x v0).1 4) (S 0 0)).2 8))), (f 9, .inl (cA, 7, .inl ((r_Plan_lay S Q ((r_Srch_findBest S P x v0).1 4) (S 0 0)).2 9))), (f 10, .inl (cA, 7, .inl ((r_Plan_lay S Q ((r_Srch_findBest S P x v0).1 4) (S 0 0)).2 10))), (b, .inr (2, [.int (S 0 0), .ref (g 1), .ref (g 2), .ref (g 3), .ref (g 4), .ref (g 5), .ref (g 6), .int (S 0 1), .int (S 0 2), .int (S 0 3), .int (S 0 4), .int (S 0 5), .int (S 0 6), .int (S 0 7), .ref (g 7)])), (g 1, .inl (cA, 6, .inl (S 1))), (g 2, .inl (cA, 6, .inl (S 2))), (g 3, .inl (cA, 6, .inl (S 3))), (g 4, .inl (cA, 6, .inl (S 4))), (g 5, .inl (cA, 6, .inl (S 5))), (g 6, .inl (cA, 6, .inl (S 6))), (g 7, .inl (cA, 36, .inl (S 7)))] H := hP
        have hD : va_D A [(u, .inr (3, [.ref b, .ref o, .ref aa, .int 0, .int 1])), (o, .inr (1, [.ref b, .ref a, .int ((r_Srch_findBest S P x v0).1 0), .int ((r_Srch_findBest S P x v0).1 1), .int ((r_Srch_findBest S P x v0).1 2), .int ((r_Srch_findBest S P x v0).1 3), .int ((r_Srch_findBest S P x v0).1 4), .int ((r_Srch_findBest S P x v0).1 5)])), (a, .inr (0, [.ref b, .ref (d 0), .ref (d 1), .ref (d 2), .ref (d 3), .ref (d 4), .ref (d 5), .ref (d 6), .ref (d 7), .ref (d 8), .ref (d 9), .ref (d 10)])), (d 0, .inl (cA, 6, .inl ((r_Srch_findBest S P x v0).2 0))), (d 1, .inl (cA, 6, .inl ((r_Srch_findBest S P x v0).2 1))), (d 2, .inl (cA, 6, .inl ((r_Srch_findBest S P x v0).2 2))), (d 3, .inl (cA, 6, .inl ((r_Srch_findBest S P x v0).2 3))), (d 4, .inl (cA, 6, .inl ((r_Srch_findBest S P x v0).2 4))), (d 5, .inl (cA, 6, .inl ((r_Srch_findBest S P x v0).2 5))), (d 6, .inl (cA, 6, .inl ((r_Srch_findBest S P x v0).2 6))), (d 7, .inl (cA, 6, .inl ((r_Srch_findBest S P x v0).2 7))), (d 8, .inl (cA, 7, .inl ((r_Srch_findBest S P x v0).2 8))), (d 9, .inl (cA, 7, .inl ((r_Srch_findBest S P x v0).2 9))), (d 10, .inl (cA, 7, .inl ((r_Srch_findBest S P x v0).2 10))), (aa, .inr (0, [.ref b, .ref (f 0), .ref (f 1), .ref (f 2), .ref (f 3), .ref (f 4), .ref (f 5), .ref (f 6), .ref (f 7), .ref (f 8), .ref (f 9), .ref (f 10)])), (f 0, .inl (cA, 6, .inl ((r_Plan_lay S Q ((r_Srch_findBest S P x v0).1 4) (S 0 0)).2 0))), (f 1, .inl (cA, 6, .inl ((r_Plan_lay S Q ((r_Srch_findBest S P x v0).1 4) (S 0 0)).2 1))), (f 2, .inl (cA, 6, .inl ((r_Plan_lay S Q ((r_Srch_findBest S P x v0).1 4) (S 0 0)).2 2))), (f 3, .inl (cA, 6, .inl ((r_Plan_lay S Q ((r_Srch_findBest S P x v0).1 4) (S 0 0)).2 3))), (f 4, .inl (cA, 6, .inl ((r_Plan_lay S Q ((r_Srch_findBest S P x v0).1 4) (S 0 0)).2 4))), (f 5, .inl (cA, 6, .inl ((r_Plan_lay S Q ((r_Srch_findBest S P x v0).1 4) (S 0 0)).2 5))), (f 6, .inl (cA, 6, .inl ((r_Plan_lay S Q ((r_Srch_findBest S P x v0).1 4) (S 0 0)).2 6))), (f 7, .inl (cA, 6, .inl ((r_Plan_lay S Q ((r_Srch_findBest S P x v0).1 4) (S 0 0)).2 7))), (f 8, .inl (cA, 7, .inl ((r_Plan_lay S Q ((r_Srch_findBest S P x v0).1 4) (S 0 0)).2 8))), (f 9, .inl (cA, 7, .inl ((r_Plan_lay S Q ((r_Srch_findBest S P x v0).1 4) (S 0 0)).2 9))), (f 10, .inl (cA, 7, .inl ((r_Plan_lay S Q ((r_Srch_findBest S P x v0).1 4) (S 0 0)).2 10))), (b, .inr (2, [.int (S 0 0), .ref (g 1), .ref (g 2), .ref (g 3), .ref (g 4), .ref (g 5), .ref (g 6), .int (S 0 1), .int (S 0 2), .int (S 0 3), .int (S 0 4), .int (S 0 5), .int (S 0 6), .int (S 0 7), .ref (g 7)])), (g 1, .inl (cA, 6, .inl (S 1))), (g 2, .inl (cA, 6, .inl (S 2))), (g 3, .inl (cA, 6, .inl (S 3))), (g 4, .inl (cA, 6, .inl (S 4))), (g 5, .inl (cA, 6, .inl (S 5))), (g 6, .inl (cA, 6, .inl (S 6))), (g 7, .inl (cA, 36, .inl (S 7)))] := hD
        refine lv_aload_n hx hb d_Ord_run_76 rfl (lv_at hl 0 rfl) ?_
        refine va_get (D := D) (ci := 3) (v := .int 0) (C := R_Ord) (T := T_Ord) (N := 5) hx hb hts i_Ord hown hK hP 0 rfl rfl 3 (by decide) (hts _ mb_193) (fun _ h9 => h9) rfl d_Ord_run_77 ?_
        refine lv_if_eq (tgt := 100) hx hb d_Ord_run_80 (by decide) (fun c_7 => ?_) (fun c_7 => ?_)
        · skip
          refine lv_iconst (v := (-1)) hx hb d_Ord_run_100 (by decide) ?_
          have e9 : r_Ord_run y x P Q S v0 = (0, (-1), (tv [0, 1]), (r_Srch_findBest S P x v0).1, (r_Srch_findBest S P x v0).2, (r_Plan_lay S Q ((r_Srch_findBest S P x v0).1 4) (S 0 0)).2, S) := by
            unfold r_Ord_run
            refine lt_eq ef_1 ?_
            refine (if_neg c_2).trans ?_
            refine (if_neg c_3).trans ?_
            refine lt_eq ef_5 ?_
            refine (if_pos c_6).trans ?_
            rfl
          exact hx_ret (by rw [e9]) (Nat.zero_le _) (Nat.zero_le _) (W.iret (v := (-1)) hx hb hr (fun t ht hW => ⟨(by rw [e9]), ⟨(by rw [e9, ht]; try dsimp only; exact hP.sub [0, 1, 2, 3, 4, 5, 6, 7, 8, 9, 10, 11, 12, 13, 14, 15, 16, 17, 18, 19, 20, 21, 22, 23, 24, 25, 26, 27, 28, 29, 30, 31, 32, 33] rfl), (by rw [e9]; try dsimp only; exact hD.sub [0, 1, 2, 3, 4, 5, 6, 7, 8, 9, 10, 11, 12, 13, 14, 15, 16, 17, 18, 19, 20, 21, 22, 23, 24, 25, 26, 27, 28, 29, 30, 31, 32, 33] (by decide) rfl)⟩, hS.F ht⟩) hS.2.2 d_Ord_run_101)
        · exact absurd c_7 (by decide)
      · skip
        refine lv_iconst (v := 1) hx hb d_Ord_run_68 (by decide) ?_
        refine lv_goto (tgt := 73) hx hb d_Ord_run_69 (by decide) ?_
        refine va_put (D := D) (ci := 3) (v := .int 1) (ty := .boolean) (C := R_Ord) (T := T_Ord) (N := 5) hx hb hts i_Ord t_Ord t_Ord_ok n_Ord hown hK hP hD hS 0 rfl rfl 3 (by decide) (hts _ mb_193) (fun _ h9 => h9) rfl (by decide +kernel) rfl rfl (Nat.le_of_ble_eq_true rfl) d_Ord_run_73 (fun H locs hP hD hS => ?_)
        have hP : va_P D cls [(u, .inr (3, [.ref b, .ref o, .ref aa, .int 1, .int 1])), (o, .inr (1, [.ref b, .ref a, .int ((r_Srch_findBest S P x v0).1 0), .int ((r_Srch_findBest S P x v0).1 1), .int ((r_Srch_findBest S P x v0).1 2), .int ((r_Srch_findBest S P x v0).1 3), .int ((r_Srch_findBest S P x v0).1 4), .int ((r_Srch_findBest S P x v0).1 5)])), (a, .inr (0, [.ref b, .ref (d 0), .ref (d 1), .ref (d 2), .ref (d 3), .ref (d 4), .ref (d 5), .ref (d 6), .ref (d 7), .ref (d 8), .ref (d 9), .ref (d 10)])), (d 0, .inl (cA, 6, .inl ((r_Srch_findBest S P x v0).2 0))), (d 1, .inl (cA, 6, .inl ((r_Srch_findBest S P x v0).2 1))), (d 2, .inl (cA, 6, .inl ((r_Srch_findBest S P x v0).2 2))), (d 3, .inl (cA, 6, .inl ((r_Srch_findBest S P x v0).2 3))), (d 4, .inl (cA, 6, .inl ((r_Srch_findBest S P x v0).2 4))), (d 5, .inl (cA, 6, .inl ((r_Srch_findBest S P x v0).2 5))), (d 6, .inl (cA, 6, .inl ((r_Srch_findBest S P x v0).2 6))), (d 7, .inl (cA, 6, .inl ((r_Srch_findBest S P x v0).2 7))), (d 8, .inl (cA, 7, .inl ((r_Srch_findBest S P x v0).2 8))), (d 9, .inl (cA, 7, .inl ((r_Srch_findBest S P x v0).2 9))), (d 10, .inl (cA, 7, .inl ((r_Srch_findBest S P x v0).2 10))), (aa, .inr (0, [.ref b, .ref (f 0), .ref (f 1), .ref (f 2), .ref (f 3), .ref (f 4), .ref (f 5), .ref (f 6), .ref (f 7), .ref (f 8), .ref (f 9), .ref (f 10)])), (f 0, .inl (cA, 6, .inl ((r_Plan_lay S Q ((r_Srch_findBest S P x v0).1 4) (S 0 0)).2 0))), (f 1, .inl (cA, 6, .inl ((r_Plan_lay S Q ((r_Srch_findBest S P x v0).1 4) (S 0 0)).2 1))), (f 2, .inl (cA, 6, .inl ((r_Plan_lay S Q ((r_Srch_findBest S P x v0).1 4) (S 0 0)).2 2))), (f 3, .inl (cA, 6, .inl ((r_Plan_lay S Q ((r_Srch_findBest S P x v0).1 4) (S 0 0)).2 3))), (f 4, .inl (cA, 6, .inl ((r_Plan_lay S Q ((r_Srch_findBest S P x v0).1 4) (S 0 0)).2 4))), (f 5, .inl (cA, 6, .inl ((r_Plan_lay S Q ((r_Srch_findBest S P x v0).1 4) (S 0 0)).2 5))), (f 6, .inl (cA, 6, .inl ((r_Plan_lay S Q ((r_Srch_findBest S P x v0).1 4) (S 0 0)).2 6))), (f 7, .inl (cA, 6, .inl ((r_Plan_lay S Q ((r_Srch_findBest S P x v0).1 4) (S 0 0)).2 7))), (f 8, .inl (cA, 7, .inl ((r_Plan_lay S Q ((r_Srch_findBest S P x v0).1 4) (S 0 0)).2 8))), (f 9, .inl (cA, 7, .inl ((r_Plan_lay S Q ((r_Srch_findBest S P x v0).1 4) (S 0 0)).2 9))), (f 10, .inl (cA, 7, .inl ((r_Plan_lay S Q ((r_Srch_findBest S P x v0).1 4) (S 0 0)).2 10))), (b, .inr (2, [.int (S 0 0), .ref (g 1), .ref (g 2), .ref (g 3), .ref (g 4), .ref (g 5), .ref (g 6), .int (S 0 1), .int (S 0 2), .int (S 0 3), .int (S 0 4), .int (S 0 5), .int (S 0 6), .int (S 0 7), .ref (g 7)])), (g 1, .inl (cA, 6, .inl (S 1))), (g 2, .inl (cA, 6, .inl (S 2))), (g 3, .inl (cA, 6, .inl (S 3))), (g 4, .inl (cA, 6, .inl (S 4))), (g 5, .inl (cA, 6, .inl (S 5))), (g 6, .inl (cA, 6, .inl (S 6))), (g 7, .inl (cA, 36, .inl (S 7)))] H := hP
        have hD : va_D A [(u, .inr (3, [.ref b, .ref o, .ref aa, .int 1, .int 1])), (o, .inr (1, [.ref b, .ref a, .int ((r_Srch_findBest S P x v0).1 0), .int ((r_Srch_findBest S P x v0).1 1), .int ((r_Srch_findBest S P x v0).1 2), .int ((r_Srch_findBest S P x v0).1 3), .int ((r_Srch_findBest S P x v0).1 4), .int ((r_Srch_findBest S P x v0).1 5)])), (a, .inr (0, [.ref b, .ref (d 0), .ref (d 1), .ref (d 2), .ref (d 3), .ref (d 4), .ref (d 5), .ref (d 6), .ref (d 7), .ref (d 8), .ref (d 9), .ref (d 10)])), (d 0, .inl (cA, 6, .inl ((r_Srch_findBest S P x v0).2 0))), (d 1, .inl (cA, 6, .inl ((r_Srch_findBest S P x v0).2 1))), (d 2, .inl (cA, 6, .inl ((r_Srch_findBest S P x v0).2 2))), (d 3, .inl (cA, 6, .inl ((r_Srch_findBest S P x v0).2 3))), (d 4, .inl (cA, 6, .inl ((r_Srch_findBest S P x v0).2 4))), (d 5, .inl (cA, 6, .inl ((r_Srch_findBest S P x v0).2 5))), (d 6, .inl (cA, 6, .inl ((r_Srch_findBest S P x v0).2 6))), (d 7, .inl (cA, 6, .inl ((r_Srch_findBest S P x v0).2 7))), (d 8, .inl (cA, 7, .inl ((r_Srch_findBest S P x v0).2 8))), (d 9, .inl (cA, 7, .inl ((r_Srch_findBest S P x v0).2 9))), (d 10, .inl (cA, 7, .inl ((r_Srch_findBest S P x v0).2 10))), (aa, .inr (0, [.ref b, .ref (f 0), .ref (f 1), .ref (f 2), .ref (f 3), .ref (f 4), .ref (f 5), .ref (f 6), .ref (f 7), .ref (f 8), .ref (f 9), .ref (f 10)])), (f 0, .inl (cA, 6, .inl ((r_Plan_lay S Q ((r_Srch_findBest S P x v0).1 4) (S 0 0)).2 0))), (f 1, .inl (cA, 6, .inl ((r_Plan_lay S Q ((r_Srch_findBest S P x v0).1 4) (S 0 0)).2 1))), (f 2, .inl (cA, 6, .inl ((r_Plan_lay S Q ((r_Srch_findBest S P x v0).1 4) (S 0 0)).2 2))), (f 3, .inl (cA, 6, .inl ((r_Plan_lay S Q ((r_Srch_findBest S P x v0).1 4) (S 0 0)).2 3))), (f 4, .inl (cA, 6, .inl ((r_Plan_lay S Q ((r_Srch_findBest S P x v0).1 4) (S 0 0)).2 4))), (f 5, .inl (cA, 6, .inl ((r_Plan_lay S Q ((r_Srch_findBest S P x v0).1 4) (S 0 0)).2 5))), (f 6, .inl (cA, 6, .inl ((r_Plan_lay S Q ((r_Srch_findBest S P x v0).1 4) (S 0 0)).2 6))), (f 7, .inl (cA, 6, .inl ((r_Plan_lay S Q ((r_Srch_findBest S P x v0).1 4) (S 0 0)).2 7))), (f 8, .inl (cA, 7, .inl ((r_Plan_lay S Q ((r_Srch_findBest S P x v0).1 4) (S 0 0)).2 8))), (f 9, .inl (cA, 7, .inl ((r_Plan_lay S Q ((r_Srch_findBest S P x v0).1 4) (S 0 0)).2 9))), (f 10, .inl (cA, 7, .inl ((r_Plan_lay S Q ((r_Srch_findBest S P x v0).1 4) (S 0 0)).2 10))), (b, .inr (2, [.int (S 0 0), .ref (g 1), .ref (g 2), .ref (g 3), .ref (g 4), .ref (g 5), .ref (g 6), .int (S 0 1), .int (S 0 2), .int (S 0 3), .int (S 0 4), .int (S 0 5), .int (S 0 6), .int (S 0 7), .ref (g 7)])), (g 1, .inl (cA, 6, .inl (S 1))), (g 2, .inl (cA, 6, .inl (S 2))), (g 3, .inl (cA, 6, .inl (S 3))), (g 4, .inl (cA, 6, .inl (S 4))), (g 5, .inl (cA, 6, .inl (S 5))), (g 6, .inl (cA, 6, .inl (S 6))), (g 7, .inl (cA, 36, .inl (S 7)))] := hD
        refine lv_aload_n hx hb d_Ord_run_76 rfl (lv_at hl 0 rfl) ?_
        refine va_get (D := D) (ci := 3) (v := .int 1) (C := R_Ord) (T := T_Ord) (N := 5) hx hb hts i_Ord hown hK hP 0 rfl rfl 3 (by decide) (hts _ mb_193) (fun _ h9 => h9) rfl d_Ord_run_77 ?_
        refine lv_if_eq (tgt := 100) hx hb d_Ord_run_80 (by decide) (fun c_8 => ?_) (fun c_8 => ?_)
        · exact absurd c_8 (by decide)
        · skip
          refine lv_aload_n hx hb d_Ord_run_83 rfl (lv_at hl 0 rfl) ?_
          refine va_get (D := D) (ci := 3) (v := .ref aa) (C := R_Ord) (T := T_Ord) (N := 5) hx hb hts i_Ord hown hK hP 0 rfl rfl 2 (by decide) (hts _ mb_192) (fun _ h9 => h9) rfl d_Ord_run_84 ?_
          refine lv_aload_n hx hb d_Ord_run_87 rfl (lv_at hl 0 rfl) ?_
          refine va_get (D := D) (ci := 3) (v := .ref b) (C := R_Ord) (T := T_Ord) (N := 5) hx hb hts i_Ord hown hK hP 0 rfl rfl 0 (by decide) (hts _ mb_190) (fun _ h9 => h9) rfl d_Ord_run_88 ?_
          refine va_get (D := D) (ci := 2) (v := .int (S 0 0)) (C := R_Shop) (T := T_Shop) (N := 15) hx hb hts i_Shop hown hK hP 26 rfl rfl 0 (by decide) (hts _ mb_29) (fun _ h9 => h9) rfl d_Ord_run_91 ?_
          refine hr_callV (C := R_Plan) (T := T_Plan) (N := 12) (As := [.int (S 0 0)]) (rest := []) ⟨hx, hb, hml, hown, hts⟩ (k_Plan_costOf l D cA cZ cL aa f b g S ((r_Plan_lay S Q ((r_Srch_findBest S P x v0).1 4) (S 0 0)).2) (S 0 0) (in7_N hN)) (bv_V 1 hts mb_442 (hts _ mb_4) (hts _ mb_461) (hts _ mb_440) (hts _ mb_441) (by decide +kernel) ⟨Nat.le_of_ble_eq_true rfl, Nat.le_of_ble_eq_true rfl⟩) hK hZ hP [14, 15, 16, 17, 18, 19, 20, 21, 22, 23, 24, 25, 26, 27, 28, 29, 30, 31, 32, 33] rfl 14 0 rfl rfl rfl hl.1 rfl (lv_room (Nat.le_of_ble_eq_true rfl)) d_Ord_run_94 ⟨Nat.zero_le _, Nat.zero_le _⟩ ?_
          refine lv_topi (fun f_9 ef_9 => ?_)
          refine lv_goto (tgt := 101) hx hb d_Ord_run_97 (by decide) ?_
          have e9 : r_Ord_run y x P Q S v0 = (0, f_9, (tv [1, 1]), (r_Srch_findBest S P x v0).1, (r_Srch_findBest S P x v0).2, (r_Plan_lay S Q ((r_Srch_findBest S P x v0).1 4) (S 0 0)).2, S) := by
            unfold r_Ord_run
            refine lt_eq ef_1 ?_
            refine (if_neg c_2).trans ?_
            refine (if_neg c_3).trans ?_
            refine lt_eq ef_5 ?_
            refine (if_neg c_6).trans ?_
            refine lt_eq ef_9 ?_
            rfl
          exact hx_ret (by rw [e9]) (Nat.zero_le _) (Nat.zero_le _) (W.iret (v := f_9) hx hb hr (fun t ht hW => ⟨(by rw [e9]), ⟨(by rw [e9, ht]; try dsimp only; exact hP.sub [0, 1, 2, 3, 4, 5, 6, 7, 8, 9, 10, 11, 12, 13, 14, 15, 16, 17, 18, 19, 20, 21, 22, 23, 24, 25, 26, 27, 28, 29, 30, 31, 32, 33] rfl), (by rw [e9]; try dsimp only; exact hD.sub [0, 1, 2, 3, 4, 5, 6, 7, 8, 9, 10, 11, 12, 13, 14, 15, 16, 17, 18, 19, 20, 21, 22, 23, 24, 25, 26, 27, 28, 29, 30, 31, 32, 33] (by decide) rfl)⟩, hS.F ht⟩) hS.2.2 d_Ord_run_101)
  · skip
    have e9 : r_Ord_run y x P Q S v0 = (2, 0, y, x, P, Q, S) := by
      unfold r_Ord_run
      refine lt_eq ef_1 ?_
      refine (if_pos c_2).trans ?_
      rfl
    rw [e9]
    exact hx_throw (k := 2) hx hb htr hown hlocks hex hml hts hY (by try dsimp only; exact hP.sub [0, 1, 2, 3, 4, 5, 6, 7, 8, 9, 10, 11, 12, 13, 14, 15, 16, 17, 18, 19, 20, 21, 22, 23, 24, 25, 26, 27, 28, 29, 30, 31, 32, 33] rfl) (by try dsimp only; exact hD.sub [0, 1, 2, 3, 4, 5, 6, 7, 8, 9, 10, 11, 12, 13, 14, 15, 16, 17, 18, 19, 20, 21, 22, 23, 24, 25, 26, 27, 28, 29, 30, 31, 32, 33] (by decide) rfl) hS hA hst (by decide) hl.1 mb_347 mb_10 (i1 := 114) (text := "so many nodes can't be") (by decide) d_Ord_run_10 d_Ord_run_13 d_Ord_run_14 d_Ord_run_16 d_Ord_run_19 ⟨Nat.le_of_ble_eq_true rfl, Nat.le_of_ble_eq_true rfl⟩ ⟨Nat.le_refl _, Nat.le_refl _⟩ ⟨Nat.le_of_ble_eq_true rfl, Nat.le_of_ble_eq_true rfl⟩
def r_Ord_planned (y x : Nat → Int32) (P Q S : Nat → Nat → Int32) (v0 : Int32) : Nat × Int32 × TC := lt (r_Ord_within v0 0 1) fun (f_1 : Int32) => if f_1 = 0 then ((3, 0, y, x, P, Q, S)) else (if y 1 = 0 then ((1, 0, y, x, P, Q, S)) else (if v0 = 0 then (if x 2 = 0 then ((0, 1, y, x, P, Q, S)) else ((0, 0, y, x, P, Q, S))) else ((0, x 1, y, x, P, Q, S))))
set_option maxHeartbeats 4000000 in
set_option maxRecDepth 100000 in
theorem k_Ord_planned (l : Launch) (D : va_G) (cA cZ cL : ClassId) (u b o aa a : Nat) (d f g : Nat → Nat) (y x : Nat → Int32) (P Q S : Nat → Nat → Int32) (v0 : Int32) (htr : l.stackTraces = false) (hG : ∀ j, vp_in (S 1 j) 6) (hN : ∃ n : Nat, n ≤ 6 ∧ S 0 0 = nI n) (hp : ∀ j, vp_in (P 0 j) 6) (hq : ∀ j, vp_in (Q 0 j) 6) : MetX l y_Ord_planned (Cond.code y_Ord_planned c_Ord_planned 2 (some .int) :: base) ({ frames := 6, cells := 1, slots := 6, locals := 90 } : Room) D cls (tys3 cA cZ cL) ([.ref u, .int v0]) (wCls cA u b o aa a d f g y x P Q S) (r_Ord_planned y x P Q S v0).1 (some (.int (r_Ord_planned y x P Q S v0).2.1)) (wCls cA u b o aa a d f g ((r_Ord_planned y x P Q S v0).2.2).1 ((r_Ord_planned y x P Q S v0).2.2).2.1 ((r_Ord_planned y x P Q S v0).2.2).2.2.1 ((r_Ord_planned y x P Q S v0).2.2).2.2.2.1 ((r_Ord_planned y x P Q S v0).2.2).2.2.2.2) := by
  refine MetX.ofW (cc := c_Ord_planned) (maxL := 2) (ret := (some .int)) (by decide) rfl ?_
  intro sz p e s m args below meth c s₁ B hml hex hv
  obtain ⟨rfl, ⟨hsz, hP, hK, hZ, hD0⟩, hY⟩ := hv
  have hst := hx_nost hP
  have hx := B.exec
  have hb := B.bytes
  have hr := B.returns
  have hts0 := atoms_spec (ws := (Cond.code y_Ord_planned c_Ord_planned 2 (some .int) :: base)) B.pre
  have hts : ∀ w ∈ base, w.before _ s = true := fun w h => hts0 w (List.mem_cons_of_mem _ h)
  have hown : s.vm.findClass R_Ord = some m.cls := findClass_of_methodNamed B.named
  have hlocks := B.notSynchronized
  have hP : va_P D cls [(u, .inr (3, [.ref b, .ref o, .ref aa, .int (y 0), .int (y 1)])), (o, .inr (1, [.ref b, .ref a, .int (x 0), .int (x 1), .int (x 2), .int (x 3), .int (x 4), .int (x 5)])), (a, .inr (0, [.ref b, .ref (d 0), .ref (d 1), .ref (d 2), .ref (d 3), .ref (d 4), .ref (d 5), .ref (d 6), .ref (d 7), .ref (d 8), .ref (d 9), .ref (d 10)])), (d 0, .inl (cA, 6, .inl (P 0))), (d 1, .inl (cA, 6, .inl (P 1))), (d 2, .inl (cA, 6, .inl (P 2))), (d 3, .inl (cA, 6, .inl (P 3))), (d 4, .inl (cA, 6, .inl (P 4))), (d 5, .inl (cA, 6, .inl (P 5))), (d 6, .inl (cA, 6, .inl (P 6))), (d 7, .inl (cA, 6, .inl (P 7))), (d 8, .inl (cA, 7, .inl (P 8))), (d 9, .inl (cA, 7, .inl (P 9))), (d 10, .inl (cA, 7, .inl (P 10))), (aa, .inr (0, [.ref b, .ref (f 0), .ref (f 1), .ref (f 2), .ref (f 3), .ref (f 4), .ref (f 5), .ref (f 6), .ref (f 7), .ref (f 8), .ref (f 9), .ref (f 10)])), (f 0, .inl (cA, 6, .inl (Q 0))), (f 1, .inl (cA, 6, .inl (Q 1))), (f 2, .inl (cA, 6, .inl (Q 2))), (f 3, .inl (cA, 6, .inl (Q 3))), (f 4, .inl (cA, 6, .inl (Q 4))), (f 5, .inl (cA, 6, .inl (Q 5))), (f 6, .inl (cA, 6, .inl (Q 6))), (f 7, .inl (cA, 6, .inl (Q 7))), (f 8, .inl (cA, 7, .inl (Q 8))), (f 9, .inl (cA, 7, .inl (Q 9))), (f 10, .inl (cA, 7, .inl (Q 10))), (b, .inr (2, [.int (S 0 0), .ref (g 1), .ref (g 2), .ref (g 3), .ref (g 4), .ref (g 5), .ref (g 6), .int (S 0 1), .int (S 0 2), .int (S 0 3), .int (S 0 4), .int (S 0 5), .int (S 0 6), .int (S 0 7), .ref (g 7)])), (g 1, .inl (cA, 6, .inl (S 1))), (g 2, .inl (cA, 6, .inl (S 2))), (g 3, .inl (cA, 6, .inl (S 3))), (g 4, .inl (cA, 6, .inl (S 4))), (g 5, .inl (cA, 6, .inl (S 5))), (g 6, .inl (cA, 6, .inl (S 6))), (g 7, .inl (cA, 36, .inl (S 7)))] s.heap := hP
  subst hsz
  have hD := hD0.self (sz := s.heap.size)
  generalize hAe : va_A (wCls cA u b o aa a d f g y x P Q S) s.heap.size = A at hD hst ⊢
  have hA : ∀ q : Nat, s.heap.size ≤ q → A q := fun q h => by rw [← hAe]; exact Or.inr h
  have hS : va_S A s.heap s.heap [] := va_S.rf
  have hD : va_D A [(u, .inr (3, [.ref b, .ref o, .ref aa, .int (y 0), .int (y 1)])), (o, .inr (1, [.ref b, .ref a, .int (x 0), .int (x 1), .int (x 2), .int (x 3), .int (x 4), .int (x 5)])), (a, .inr (0, [.ref b, .ref (d 0), .ref (d 1), .ref (d 2), .ref (d 3), .ref (d 4), .ref (d 5), .ref (d 6), .ref (d 7), .ref (d 8), .ref (d 9), .ref (d 10)])), (d 0, .inl (cA, 6, .inl (P 0))), (d 1, .inl (cA, 6, .inl (P 1))), (d 2, .inl (cA, 6, .inl (P 2))), (d 3, .inl (cA, 6, .inl (P 3))), (d 4, .inl (cA, 6, .inl (P 4))), (d 5, .inl (cA, 6, .inl (P 5))), (d 6, .inl (cA, 6, .inl (P 6))), (d 7, .inl (cA, 6, .inl (P 7))), (d 8, .inl (cA, 7, .inl (P 8))), (d 9, .inl (cA, 7, .inl (P 9))), (d 10, .inl (cA, 7, .inl (P 10))), (aa, .inr (0, [.ref b, .ref (f 0), .ref (f 1), .ref (f 2), .ref (f 3), .ref (f 4), .ref (f 5), .ref (f 6), .ref (f 7), .ref (f 8), .ref (f 9), .ref (f 10)])), (f 0, .inl (cA, 6, .inl (Q 0))), (f 1, .inl (cA, 6, .inl (Q 1))), (f 2, .inl (cA, 6, .inl (Q 2))), (f 3, .inl (cA, 6, .inl (Q 3))), (f 4, .inl (cA, 6, .inl (Q 4))), (f 5, .inl (cA, 6, .inl (Q 5))), (f 6, .inl (cA, 6, .inl (Q 6))), (f 7, .inl (cA, 6, .inl (Q 7))), (f 8, .inl (cA, 7, .inl (Q 8))), (f 9, .inl (cA, 7, .inl (Q 9))), (f 10, .inl (cA, 7, .inl (Q 10))), (b, .inr (2, [.int (S 0 0), .ref (g 1), .ref (g 2), .ref (g 3), .ref (g 4), .ref (g 5), .ref (g 6), .int (S 0 1), .int (S 0 2), .int (S 0 3), .int (S 0 4), .int (S 0 5), .int (S 0 6), .int (S 0 7), .ref (g 7)])), (g 1, .inl (cA, 6, .inl (S 1))), (g 2, .inl (cA, 6, .inl (S 2))), (g 3, .inl (cA, 6, .inl (S 3))), (g 4, .inl (cA, 6, .inl (S 4))), (g 5, .inl (cA, 6, .inl (S 5))), (g 6, .inl (cA, 6, .inl (S 6))), (g 7, .inl (cA, 36, .inl (S 7)))] := hD
  have hl := lv_entry ([.ref u, .int v0]) (n := 2) (Nat.le_of_ble_eq_true rfl)
  rw [lg_entry_eq]
  generalize (lg_sl ([.ref u, .int v0]) ++ List.replicate (2 - (lg_sl ([.ref u, .int v0])).length) Slot.unset).toArray = ls at hl ⊢
  have hl : lv_has ls 2 [(0, .ref u), (1, .int v0)] := hl
  refine lv_iload_n hx hb d_Ord_planned_0 rfl (lv_at hl 1 rfl) ?_
  refine lv_iconst (v := 0) hx hb d_Ord_planned_1 (by decide) ?_
  refine lv_iconst (v := 1) hx hb d_Ord_planned_2 (by decide) ?_
  refine hr_callS (As := [.int v0, .int 0, .int 1]) (rest := []) ⟨hx, hb, hml, hown, hts⟩ (k_Ord_within l D cA cZ cL v0 0 1) (bs_S 3 hts mb_239 (hts _ mb_1) (hts _ mb_343) (hts _ mb_238) (by decide +kernel) ⟨Nat.le_of_ble_eq_true rfl, Nat.le_of_ble_eq_true rfl⟩) hK hZ hP [] rfl rfl hl.1 rfl (lv_room (Nat.le_of_ble_eq_true rfl)) d_Ord_planned_3 ⟨Nat.zero_le _, Nat.zero_le _⟩ ?_
  refine lv_topi (fun f_1 ef_1 => ?_)
  refine lv_if_ne (tgt := 19) hx hb d_Ord_planned_6 (by decide) (fun c_2 => ?_) (fun c_2 => ?_)
  · skip
    refine lv_aload_n hx hb d_Ord_planned_19 rfl (lv_at hl 0 rfl) ?_
    refine va_get (D := D) (ci := 3) (v := .int (y 1)) (C := R_Ord) (T := T_Ord) (N := 5) hx hb hts i_Ord hown hK hP 0 rfl rfl 4 (by decide) (hts _ mb_194) (fun _ h9 => h9) rfl d_Ord_planned_20 ?_
    refine lv_if_ne (tgt := 36) hx hb d_Ord_planned_23 (by decide) (fun c_3 => ?_) (fun c_3 => ?_)
    · skip
      refine lv_iload_n hx hb d_Ord_planned_36 rfl (lv_at hl 1 rfl) ?_
      refine lv_if_ne (tgt := 56) hx hb d_Ord_planned_37 (by decide) (fun c_4 => ?_) (fun c_4 => ?_)
      · skip
        refine lv_aload_n hx hb d_Ord_planned_56 rfl (lv_at hl 0 rfl) ?_
        refine va_get (D := D) (ci := 3) (v := .ref o) (C := R_Ord) (T := T_Ord) (N := 5) hx hb hts i_Ord hown hK hP 0 rfl rfl 1 (by decide) (hts _ mb_191) (fun _ h9 => h9) rfl d_Ord_planned_57 ?_
        refine va_get (D := D) (ci := 1) (v := .int (x 1)) (C := R_Srch) (T := T_Srch) (N := 8) hx hb hts i_Srch hown hK hP 1 rfl rfl 3 (by decide) (hts _ mb_163) (fun _ h9 => h9) rfl d_Ord_planned_60 ?_
        have e9 : r_Ord_planned y x P Q S v0 = (0, x 1, y, x, P, Q, S) := by
          unfold r_Ord_planned
          refine lt_eq ef_1 ?_
          refine (if_neg c_2).trans ?_
          refine (if_neg c_3).trans ?_
          refine (if_neg c_4).trans ?_
          rfl
        exact hx_ret (by rw [e9]) (Nat.zero_le _) (Nat.zero_le _) (W.iret (v := (x 1)) hx hb hr (fun t ht hW => ⟨(by rw [e9]), ⟨(by rw [e9, ht]; try dsimp only; exact hP.sub [0, 1, 2, 3, 4, 5, 6, 7, 8, 9, 10, 11, 12, 13, 14, 15, 16, 17, 18, 19, 20, 21, 22, 23, 24, 25, 26, 27, 28, 29, 30, 31, 32, 33] rfl), (by rw [e9]; try dsimp only; exact hD.sub [0, 1, 2, 3, 4, 5, 6, 7, 8, 9, 10, 11, 12, 13, 14, 15, 16, 17, 18, 19, 20, 21, 22, 23, 24, 25, 26, 27, 28, 29, 30, 31, 32, 33] (by decide) rfl)⟩, hS.F ht⟩) hS.2.2 d_Ord_planned_63)
      · skip
        refine lv_aload_n hx hb d_Ord_planned_40 rfl (lv_at hl 0 rfl) ?_
        refine va_get (D := D) (ci := 3) (v := .ref o) (C := R_Ord) (T := T_Ord) (N := 5) hx hb hts i_Ord hown hK hP 0 rfl rfl 1 (by decide) (hts _ mb_191) (fun _ h9 => h9) rfl d_Ord_planned_41 ?_
        refine va_get (D := D) (ci := 1) (v := .int (x 2)) (C := R_Srch) (T := T_Srch) (N := 8) hx hb hts i_Srch hown hK hP 1 rfl rfl 4 (by decide) (hts _ mb_165) (fun _ h9 => h9) rfl d_Ord_planned_44 ?_
        refine lv_if_eq (tgt := 54) hx hb d_Ord_planned_47 (by decide) (fun c_5 => ?_) (fun c_5 => ?_)
        · skip
          refine lv_iconst (v := 1) hx hb d_Ord_planned_54 (by decide) ?_
          have e9 : r_Ord_planned y x P Q S v0 = (0, 1, y, x, P, Q, S) := by
            unfold r_Ord_planned
            refine lt_eq ef_1 ?_
            refine (if_neg c_2).trans ?_
            refine (if_neg c_3).trans ?_
            refine (if_pos c_4).trans ?_
            refine (if_pos c_5).trans ?_
            rfl
          exact hx_ret (by rw [e9]) (Nat.zero_le _) (Nat.zero_le _) (W.iret (v := 1) hx hb hr (fun t ht hW => ⟨(by rw [e9]), ⟨(by rw [e9, ht]; try dsimp only; exact hP.sub [0, 1, 2, 3, 4, 5, 6, 7, 8, 9, 10, 11, 12, 13, 14, 15, 16, 17, 18, 19, 20, 21, 22, 23, 24, 25, 26, 27, 28, 29, 30, 31, 32, 33] rfl), (by rw [e9]; try dsimp only; exact hD.sub [0, 1, 2, 3, 4, 5, 6, 7, 8, 9, 10, 11, 12, 13, 14, 15, 16, 17, 18, 19, 20, 21, 22, 23, 24, 25, 26, 27, 28, 29, 30, 31, 32, 33] (by decide) rfl)⟩, hS.F ht⟩) hS.2.2 d_Ord_planned_55)
        · skip
          refine lv_iconst (v := 0) hx hb d_Ord_planned_50 (by decide) ?_
          refine lv_goto (tgt := 55) hx hb d_Ord_planned_51 (by decide) ?_
          have e9 : r_Ord_planned y x P Q S v0 = (0, 0, y, x, P, Q, S) := by
            unfold r_Ord_planned
            refine lt_eq ef_1 ?_
            refine (if_neg c_2).trans ?_
            refine (if_neg c_3).trans ?_
            refine (if_pos c_4).trans ?_
            refine (if_neg c_5).trans ?_
            rfl
          exact hx_ret (by rw [e9]) (Nat.zero_le _) (Nat.zero_le _) (W.iret (v := 0) hx hb hr (fun t ht hW => ⟨(by rw [e9]), ⟨(by rw [e9, ht]; try dsimp only; exact hP.sub [0, 1, 2, 3, 4, 5, 6, 7, 8, 9, 10, 11, 12, 13, 14, 15, 16, 17, 18, 19, 20, 21, 22, 23, 24, 25, 26, 27, 28, 29, 30, 31, 32, 33] rfl), (by rw [e9]; try dsimp only; exact hD.sub [0, 1, 2, 3, 4, 5, 6, 7, 8, 9, 10, 11, 12, 13, 14, 15, 16, 17, 18, 19, 20, 21, 22, 23, 24, 25, 26, 27, 28, 29, 30, 31, 32, 33] (by decide) rfl)⟩, hS.F ht⟩) hS.2.2 d_Ord_planned_55)
    · skip
      have e9 : r_Ord_planned y x P Q S v0 = (1, 0, y, x, P, Q, S) := by
        unfold r_Ord_planned
        refine lt_eq ef_1 ?_
        refine (if_neg c_2).trans ?_
        refine (if_pos c_3).trans ?_
        rfl
      rw [e9]
      exact hx_throw (k := 1) hx hb htr hown hlocks hex hml hts hY (by try dsimp only; exact hP.sub [0, 1, 2, 3, 4, 5, 6, 7, 8, 9, 10, 11, 12, 13, 14, 15, 16, 17, 18, 19, 20, 21, 22, 23, 24, 25, 26, 27, 28, 29, 30, 31, 32, 33] rfl) (by try dsimp only; exact hD.sub [0, 1, 2, 3, 4, 5, 6, 7, 8, 9, 10, 11, 12, 13, 14, 15, 16, 17, 18, 19, 20, 21, 22, 23, 24, 25, 26, 27, 28, 29, 30, 31, 32, 33] (by decide) rfl) hS hA hst (by decide) hl.1 mb_274 mb_9 (i1 := 136) (text := "there was no planning") (by decide) d_Ord_planned_26 d_Ord_planned_29 d_Ord_planned_30 d_Ord_planned_32 d_Ord_planned_35 ⟨Nat.le_of_ble_eq_true rfl, Nat.le_of_ble_eq_true rfl⟩ ⟨Nat.le_refl _, Nat.le_refl _⟩ ⟨Nat.le_of_ble_eq_true rfl, Nat.le_of_ble_eq_true rfl⟩
  · skip
    have e9 : r_Ord_planned y x P Q S v0 = (3, 0, y, x, P, Q, S) := by
      unfold r_Ord_planned
      refine lt_eq ef_1 ?_
      refine (if_pos c_2).trans ?_
      rfl
    rw [e9]
    exact hx_throw (k := 3) hx hb htr hown hlocks hex hml hts hY (by try dsimp only; exact hP.sub [0, 1, 2, 3, 4, 5, 6, 7, 8, 9, 10, 11, 12, 13, 14, 15, 16, 17, 18, 19, 20, 21, 22, 23, 24, 25, 26, 27, 28, 29, 30, 31, 32, 33] rfl) (by try dsimp only; exact hD.sub [0, 1, 2, 3, 4, 5, 6, 7, 8, 9, 10, 11, 12, 13, 14, 15, 16, 17, 18, 19, 20, 21, 22, 23, 24, 25, 26, 27, 28, 29, 30, 31, 32, 33] (by decide) rfl) hS hA hst (by decide) hl.1 mb_379 mb_11 (i1 := 134) (text := "no such what") (by decide) d_Ord_planned_9 d_Ord_planned_12 d_Ord_planned_13 d_Ord_planned_15 d_Ord_planned_18 ⟨Nat.le_of_ble_eq_true rfl, Nat.le_of_ble_eq_true rfl⟩ ⟨Nat.le_refl _, Nat.le_refl _⟩ ⟨Nat.le_of_ble_eq_true rfl, Nat.le_of_ble_eq_true rfl⟩
def r_Ord_step (y x : Nat → Int32) (P Q S : Nat → Nat → Int32) (v0 v1 : Int32) : Nat × Int32 × TC := if y 0 = 0 then ((1, 0, y, x, P, Q, S)) else (lt ((S 0 0) - 1) fun (f_2 : Int32) => lt (r_Ord_within v0 0 f_2) fun (f_3 : Int32) => if f_3 = 0 then ((3, 0, y, x, P, Q, S)) else (lt (r_Ord_within v1 0 6) fun (f_5 : Int32) => if f_5 = 0 then ((3, 0, y, x, P, Q, S)) else (if v1 = 0 then (lt (Q 0 v0.toNatClampNeg) fun (f_8 : Int32) => (0, f_8, y, x, P, Q, S)) else (if v1 = 1 then (lt (Q 1 v0.toNatClampNeg) fun (f_10 : Int32) => (0, f_10, y, x, P, Q, S)) else (if v1 = 2 then (lt (Q 2 v0.toNatClampNeg) fun (f_12 : Int32) => (0, f_12, y, x, P, Q, S)) else (if v1 = 3 then (lt (Q 3 v0.toNatClampNeg) fun (f_14 : Int32) => (0, f_14, y, x, P, Q, S)) else (if v1 = 4 then (lt (Q 4 v0.toNatClampNeg) fun (f_16 : Int32) => (0, f_16, y, x, P, Q, S)) else (if v1 = 5 then (lt (Q 5 v0.toNatClampNeg) fun (f_18 : Int32) => (0, f_18, y, x, P, Q, S)) else (lt (Q 6 v0.toNatClampNeg) fun (f_19 : Int32) => (0, f_19, y, x, P, Q, S))))))))))
set_option maxHeartbeats 4000000 in
set_option maxRecDepth 100000 in
theorem k_Ord_step (l : Launch) (D : va_G) (cA cZ cL : ClassId) (u b o aa a : Nat) (d f g : Nat → Nat) (y x : Nat → Int32) (P Q S : Nat → Nat → Int32) (v0 v1 : Int32) (htr : l.stackTraces = false) (hG : ∀ j, vp_in (S 1 j) 6) (hN : ∃ n : Nat, n ≤ 6 ∧ S 0 0 = nI n) (hp : ∀ j, vp_in (P 0 j) 6) (hq : ∀ j, vp_in (Q 0 j) 6) : MetX l y_Ord_step (Cond.code y_Ord_step c_Ord_step 3 (some .int) :: base) ({ frames := 6, cells := 1, slots := 6, locals := 90 } : Room) D cls (tys3 cA cZ cL) ([.ref u, .int v0, .int v1]) (wCls cA u b o aa a d f g y x P Q S) (r_Ord_step y x P Q S v0 v1).1 (some (.int (r_Ord_step y x P Q S v0 v1).2.1)) (wCls cA u b o aa a d f g ((r_Ord_step y x P Q S v0 v1).2.2).1 ((r_Ord_step y x P Q S v0 v1).2.2).2.1 ((r_Ord_step y x P Q S v0 v1).2.2).2.2.1 ((r_Ord_step y x P Q S v0 v1).2.2).2.2.2.1 ((r_Ord_step y x P Q S v0 v1).2.2).2.2.2.2) := by
  refine MetX.ofW (cc := c_Ord_step) (maxL := 3) (ret := (some .int)) (by decide) rfl ?_
  intro sz p e s m args below meth c s₁ B hml hex hv
  obtain ⟨rfl, ⟨hsz, hP, hK, hZ, hD0⟩, hY⟩ := hv
  have hst := hx_nost hP
  have hx := B.exec
  have hb := B.bytes
  have hr := B.returns
  have hts0 := atoms_spec (ws := (Cond.code y_Ord_step c_Ord_step 3 (some .int) :: base)) B.pre
  have hts : ∀ w ∈ base, w.before _ s = true := fun w h => hts0 w (List.mem_cons_of_mem _ h)
  have hown : s.vm.findClass R_Ord = some m.cls := findClass_of_methodNamed B.named
  have hlocks := B.notSynchronized
  have hP : va_P D cls [(u, .inr (3, [.ref b, .ref o, .ref aa, .int (y 0), .int (y 1)])), (o, .inr (1, [.ref b, .ref a, .int (x 0), .int (x 1), .int (x 2), .int (x 3), .int (x 4), .int (x 5)])), (a, .inr (0, [.ref b, .ref (d 0), .ref (d 1), .ref (d 2), .ref (d 3), .ref (d 4), .ref (d 5), .ref (d 6), .ref (d 7), .ref (d 8), .ref (d 9), .ref (d 10)])), (d 0, .inl (cA, 6, .inl (P 0))), (d 1, .inl (cA, 6, .inl (P 1))), (d 2, .inl (cA, 6, .inl (P 2))), (d 3, .inl (cA, 6, .inl (P 3))), (d 4, .inl (cA, 6, .inl (P 4))), (d 5, .inl (cA, 6, .inl (P 5))), (d 6, .inl (cA, 6, .inl (P 6))), (d 7, .inl (cA, 6, .inl (P 7))), (d 8, .inl (cA, 7, .inl (P 8))), (d 9, .inl (cA, 7, .inl (P 9))), (d 10, .inl (cA, 7, .inl (P 10))), (aa, .inr (0, [.ref b, .ref (f 0), .ref (f 1), .ref (f 2), .ref (f 3), .ref (f 4), .ref (f 5), .ref (f 6), .ref (f 7), .ref (f 8), .ref (f 9), .ref (f 10)])), (f 0, .inl (cA, 6, .inl (Q 0))), (f 1, .inl (cA, 6, .inl (Q 1))), (f 2, .inl (cA, 6, .inl (Q 2))), (f 3, .inl (cA, 6, .inl (Q 3))), (f 4, .inl (cA, 6, .inl (Q 4))), (f 5, .inl (cA, 6, .inl (Q 5))), (f 6, .inl (cA, 6, .inl (Q 6))), (f 7, .inl (cA, 6, .inl (Q 7))), (f 8, .inl (cA, 7, .inl (Q 8))), (f 9, .inl (cA, 7, .inl (Q 9))), (f 10, .inl (cA, 7, .inl (Q 10))), (b, .inr (2, [.int (S 0 0), .ref (g 1), .ref (g 2), .ref (g 3), .ref (g 4), .ref (g 5), .ref (g 6), .int (S 0 1), .int (S 0 2), .int (S 0 3), .int (S 0 4), .int (S 0 5), .int (S 0 6), .int (S 0 7), .ref (g 7)])), (g 1, .inl (cA, 6, .inl (S 1))), (g 2, .inl (cA, 6, .inl (S 2))), (g 3, .inl (cA, 6, .inl (S 3))), (g 4, .inl (cA, 6, .inl (S 4))), (g 5, .inl (cA, 6, .inl (S 5))), (g 6, .inl (cA, 6, .inl (S 6))), (g 7, .inl (cA, 36, .inl (S 7)))] s.heap := hP
  subst hsz
  have hD := hD0.self (sz := s.heap.size)
  generalize hAe : va_A (wCls cA u b o aa a d f g y x P Q S) s.heap.size = A at hD hst ⊢
  have hA : ∀ q : Nat, s.heap.size ≤ q → A q := fun q h => by rw [← hAe]; exact Or.inr h
  have hS : va_S A s.heap s.heap [] := va_S.rf
  have hD : va_D A [(u, .inr (3, [.ref b, .ref o, .ref aa, .int (y 0), .int (y 1)])), (o, .inr (1, [.ref b, .ref a, .int (x 0), .int (x 1), .int (x 2), .int (x 3), .int (x 4), .int (x 5)])), (a, .inr (0, [.ref b, .ref (d 0), .ref (d 1), .ref (d 2), .ref (d 3), .ref (d 4), .ref (d 5), .ref (d 6), .ref (d 7), .ref (d 8), .ref (d 9), .ref (d 10)])), (d 0, .inl (cA, 6, .inl (P 0))), (d 1, .inl (cA, 6, .inl (P 1))), (d 2, .inl (cA, 6, .inl (P 2))), (d 3, .inl (cA, 6, .inl (P 3))), (d 4, .inl (cA, 6, .inl (P 4))), (d 5, .inl (cA, 6, .inl (P 5))), (d 6, .inl (cA, 6, .inl (P 6))), (d 7, .inl (cA, 6, .inl (P 7))), (d 8, .inl (cA, 7, .inl (P 8))), (d 9, .inl (cA, 7, .inl (P 9))), (d 10, .inl (cA, 7, .inl (P 10))), (aa, .inr (0, [.ref b, .ref (f 0), .ref (f 1), .ref (f 2), .ref (f 3), .ref (f 4), .ref (f 5), .ref (f 6), .ref (f 7), .ref (f 8), .ref (f 9), .ref (f 10)])), (f 0, .inl (cA, 6, .inl (Q 0))), (f 1, .inl (cA, 6, .inl (Q 1))), (f 2, .inl (cA, 6, .inl (Q 2))), (f 3, .inl (cA, 6, .inl (Q 3))), (f 4, .inl (cA, 6, .inl (Q 4))), (f 5, .inl (cA, 6, .inl (Q 5))), (f 6, .inl (cA, 6, .inl (Q 6))), (f 7, .inl (cA, 6, .inl (Q 7))), (f 8, .inl (cA, 7, .inl (Q 8))), (f 9, .inl (cA, 7, .inl (Q 9))), (f 10, .inl (cA, 7, .inl (Q 10))), (b, .inr (2, [.int (S 0 0), .ref (g 1), .ref (g 2), .ref (g 3), .ref (g 4), .ref (g 5), .ref (g 6), .int (S 0 1), .int (S 0 2), .int (S 0 3), .int (S 0 4), .int (S 0 5), .int (S 0 6), .int (S 0 7), .ref (g 7)])), (g 1, .inl (cA, 6, .inl (S 1))), (g 2, .inl (cA, 6, .inl (S 2))), (g 3, .inl (cA, 6, .inl (S 3))), (g 4, .inl (cA, 6, .inl (S 4))), (g 5, .inl (cA, 6, .inl (S 5))), (g 6, .inl (cA, 6, .inl (S 6))), (g 7, .inl (cA, 36, .inl (S 7)))] := hD
  have hl := lv_entry ([.ref u, .int v0, .int v1]) (n := 3) (Nat.le_of_ble_eq_true rfl)
  rw [lg_entry_eq]
  generalize (lg_sl ([.ref u, .int v0, .int v1]) ++ List.replicate (3 - (lg_sl ([.ref u, .int v0, .int v1])).length) Slot.unset).toArray = ls at hl ⊢
  have hl : lv_has ls 3 [(0, .ref u), (1, .int v0), (2, .int v1)] := hl
  refine lv_aload_n hx hb d_Ord_step_0 rfl (lv_at hl 0 rfl) ?_
  refine va_get (D := D) (ci := 3) (v := .int (y 0)) (C := R_Ord) (T := T_Ord) (N := 5) hx hb hts i_Ord hown hK hP 0 rfl rfl 3 (by decide) (hts _ mb_193) (fun _ h9 => h9) rfl d_Ord_step_1 ?_
  refine lv_if_ne (tgt := 17) hx hb d_Ord_step_4 (by decide) (fun c_1 => ?_) (fun c_1 => ?_)
  · skip
    refine lv_iload_n hx hb d_Ord_step_17 rfl (lv_at hl 1 rfl) ?_
    refine lv_iconst (v := 0) hx hb d_Ord_step_18 (by decide) ?_
    refine lv_aload_n hx hb d_Ord_step_19 rfl (lv_at hl 0 rfl) ?_
    refine va_get (D := D) (ci := 3) (v := .ref b) (C := R_Ord) (T := T_Ord) (N := 5) hx hb hts i_Ord hown hK hP 0 rfl rfl 0 (by decide) (hts _ mb_190) (fun _ h9 => h9) rfl d_Ord_step_20 ?_
    refine va_get (D := D) (ci := 2) (v := .int (S 0 0)) (C := R_Shop) (T := T_Shop) (N := 15) hx hb hts i_Shop hown hK hP 26 rfl rfl 0 (by decide) (hts _ mb_29) (fun _ h9 => h9) rfl d_Ord_step_23 ?_
    refine lv_iconst (v := 1) hx hb d_Ord_step_26 (by decide) ?_
    refine lv_isub hx hb d_Ord_step_27 ?_
    refine lv_topi (fun f_2 ef_2 => ?_)
    refine hr_callS (As := [.int v0, .int 0, .int f_2]) (rest := []) ⟨hx, hb, hml, hown, hts⟩ (k_Ord_within l D cA cZ cL v0 0 f_2) (bs_S 3 hts mb_239 (hts _ mb_1) (hts _ mb_343) (hts _ mb_238) (by decide +kernel) ⟨Nat.le_of_ble_eq_true rfl, Nat.le_of_ble_eq_true rfl⟩) hK hZ hP [] rfl rfl hl.1 rfl (lv_room (Nat.le_of_ble_eq_true rfl)) d_Ord_step_28 ⟨Nat.zero_le _, Nat.zero_le _⟩ ?_
    refine lv_topi (fun f_3 ef_3 => ?_)
    refine lv_if_eq (tgt := 44) hx hb d_Ord_step_31 (by decide) (fun c_4 => ?_) (fun c_4 => ?_)
    · skip
      have e9 : r_Ord_step y x P Q S v0 v1 = (3, 0, y, x, P, Q, S) := by
        unfold r_Ord_step
        refine (if_neg c_1).trans ?_
        refine lt_eq ef_2 ?_
        refine lt_eq ef_3 ?_
        refine (if_pos c_4).trans ?_
        rfl
      rw [e9]
      exact hx_throw (k := 3) hx hb htr hown hlocks hex hml hts hY (by try dsimp only; exact hP.sub [0, 1, 2, 3, 4, 5, 6, 7, 8, 9, 10, 11, 12, 13, 14, 15, 16, 17, 18, 19, 20, 21, 22, 23, 24, 25, 26, 27, 28, 29, 30, 31, 32, 33] rfl) (by try dsimp only; exact hD.sub [0, 1, 2, 3, 4, 5, 6, 7, 8, 9, 10, 11, 12, 13, 14, 15, 16, 17, 18, 19, 20, 21, 22, 23, 24, 25, 26, 27, 28, 29, 30, 31, 32, 33] (by decide) rfl) hS hA hst (by decide) hl.1 mb_379 mb_11 (i1 := 146) (text := "no such step or what") (by decide) d_Ord_step_44 d_Ord_step_47 d_Ord_step_48 d_Ord_step_50 d_Ord_step_53 ⟨Nat.le_of_ble_eq_true rfl, Nat.le_of_ble_eq_true rfl⟩ ⟨Nat.le_refl _, Nat.le_refl _⟩ ⟨Nat.le_of_ble_eq_true rfl, Nat.le_of_ble_eq_true rfl⟩
    · skip
      have hi6 : vp_in v0 6 := wi_N hN ef_2 (by rw [← ef_3]; exact c_4)
      refine lv_iload_n hx hb d_Ord_step_34 rfl (lv_at hl 2 rfl) ?_
      refine lv_iconst (v := 0) hx hb d_Ord_step_35 (by decide) ?_
      refine lv_bipush (v := 6) hx hb d_Ord_step_36 (by decide) ?_
      refine hr_callS (As := [.int v1, .int 0, .int 6]) (rest := []) ⟨hx, hb, hml, hown, hts⟩ (k_Ord_within l D cA cZ cL v1 0 6) (bs_S 3 hts mb_239 (hts _ mb_1) (hts _ mb_343) (hts _ mb_238) (by decide +kernel) ⟨Nat.le_of_ble_eq_true rfl, Nat.le_of_ble_eq_true rfl⟩) hK hZ hP [] rfl rfl hl.1 rfl (lv_room (Nat.le_of_ble_eq_true rfl)) d_Ord_step_38 ⟨Nat.zero_le _, Nat.zero_le _⟩ ?_
      refine lv_topi (fun f_5 ef_5 => ?_)
      refine lv_if_ne (tgt := 54) hx hb d_Ord_step_41 (by decide) (fun c_6 => ?_) (fun c_6 => ?_)
      · skip
        refine lv_iload_n hx hb d_Ord_step_54 rfl (lv_at hl 2 rfl) ?_
        by_cases c_7 : v1 = 0
        · refine lv_tableIn (tgt := 92) hx hb d_Ord_step_55 (by rw [c_7]; decide) (by rw [c_7]; decide) (by rw [c_7]; rfl) (by decide) ?_
          refine lv_aload_n hx hb d_Ord_step_92 rfl (lv_at hl 0 rfl) ?_
          refine va_get (D := D) (ci := 3) (v := .ref aa) (C := R_Ord) (T := T_Ord) (N := 5) hx hb hts i_Ord hown hK hP 0 rfl rfl 2 (by decide) (hts _ mb_192) (fun _ h9 => h9) rfl d_Ord_step_93 ?_
          refine va_get (D := D) (ci := 0) (v := .ref (f 0)) (C := R_Plan) (T := T_Plan) (N := 12) hx hb hts i_Plan hown hK hP 14 rfl rfl 1 (by decide) (hts _ mb_113) (fun _ h9 => h9) rfl d_Ord_step_96 ?_
          refine lv_iload_n hx hb d_Ord_step_99 rfl (lv_at hl 1 rfl) ?_
          refine va_iald hx hb hK hP 15 0 rfl rfl hi6 d_Ord_step_100 ?_
          refine lv_topi (fun f_8 ef_8 => ?_)
          have e9 : r_Ord_step y x P Q S v0 v1 = (0, f_8, y, x, P, Q, S) := by
            unfold r_Ord_step
            refine (if_neg c_1).trans ?_
            refine lt_eq ef_2 ?_
            refine lt_eq ef_3 ?_
            refine (if_neg c_4).trans ?_
            refine lt_eq ef_5 ?_
            refine (if_neg c_6).trans ?_
            refine (if_pos c_7).trans ?_
            refine lt_eq ef_8 ?_
            rfl
          exact hx_ret (by rw [e9]) (Nat.zero_le _) (Nat.zero_le _) (W.iret (v := f_8) hx hb hr (fun t ht hW => ⟨(by rw [e9]), ⟨(by rw [e9, ht]; try dsimp only; exact hP.sub [0, 1, 2, 3, 4, 5, 6, 7, 8, 9, 10, 11, 12, 13, 14, 15, 16, 17, 18, 19, 20, 21, 22, 23, 24, 25, 26, 27, 28, 29, 30, 31, 32, 33] rfl), (by rw [e9]; try dsimp only; exact hD.sub [0, 1, 2, 3, 4, 5, 6, 7, 8, 9, 10, 11, 12, 13, 14, 15, 16, 17, 18, 19, 20, 21, 22, 23, 24, 25, 26, 27, 28, 29, 30, 31, 32, 33] (by decide) rfl)⟩, hS.F ht⟩) hS.2.2 d_Ord_step_101)
        by_cases c_9 : v1 = 1
        · refine lv_tableIn (tgt := 102) hx hb d_Ord_step_55 (by rw [c_9]; decide) (by rw [c_9]; decide) (by rw [c_9]; rfl) (by decide) ?_
          refine lv_aload_n hx hb d_Ord_step_102 rfl (lv_at hl 0 rfl) ?_
          refine va_get (D := D) (ci := 3) (v := .ref aa) (C := R_Ord) (T := T_Ord) (N := 5) hx hb hts i_Ord hown hK hP 0 rfl rfl 2 (by decide) (hts _ mb_192) (fun _ h9 => h9) rfl d_Ord_step_103 ?_
          refine va_get (D := D) (ci := 0) (v := .ref (f 1)) (C := R_Plan) (T := T_Plan) (N := 12) hx hb hts i_Plan hown hK hP 14 rfl rfl 2 (by decide) (hts _ mb_115) (fun _ h9 => h9) rfl d_Ord_step_106 ?_
          refine lv_iload_n hx hb d_Ord_step_109 rfl (lv_at hl 1 rfl) ?_
          refine va_iald hx hb hK hP 16 0 rfl rfl hi6 d_Ord_step_110 ?_
          refine lv_topi (fun f_10 ef_10 => ?_)
          have e9 : r_Ord_step y x P Q S v0 v1 = (0, f_10, y, x, P, Q, S) := by
            unfold r_Ord_step
            refine (if_neg c_1).trans ?_
            refine lt_eq ef_2 ?_
            refine lt_eq ef_3 ?_
            refine (if_neg c_4).trans ?_
            refine lt_eq ef_5 ?_
            refine (if_neg c_6).trans ?_
            refine (if_neg c_7).trans ?_
            refine (if_pos c_9).trans ?_
            refine lt_eq ef_10 ?_
            rfl
          exact hx_ret (by rw [e9]) (Nat.zero_le _) (Nat.zero_le _) (W.iret (v := f_10) hx hb hr (fun t ht hW => ⟨(by rw [e9]), ⟨(by rw [e9, ht]; try dsimp only; exact hP.sub [0, 1, 2, 3, 4, 5, 6, 7, 8, 9, 10, 11, 12, 13, 14, 15, 16, 17, 18, 19, 20, 21, 22, 23, 24, 25, 26, 27, 28, 29, 30, 31, 32, 33] rfl), (by rw [e9]; try dsimp only; exact hD.sub [0, 1, 2, 3, 4, 5, 6, 7, 8, 9, 10, 11, 12, 13, 14, 15, 16, 17, 18, 19, 20, 21, 22, 23, 24, 25, 26, 27, 28, 29, 30, 31, 32, 33] (by decide) rfl)⟩, hS.F ht⟩) hS.2.2 d_Ord_step_111)
        by_cases c_11 : v1 = 2
        · refine lv_tableIn (tgt := 112) hx hb d_Ord_step_55 (by rw [c_11]; decide) (by rw [c_11]; decide) (by rw [c_11]; rfl) (by decide) ?_
          refine lv_aload_n hx hb d_Ord_step_112 rfl (lv_at hl 0 rfl) ?_
          refine va_get (D := D) (ci := 3) (v := .ref aa) (C := R_Ord) (T := T_Ord) (N := 5) hx hb hts i_Ord hown hK hP 0 rfl rfl 2 (by decide) (hts _ mb_192) (fun _ h9 => h9) rfl d_Ord_step_113 ?_
          refine va_get (D := D) (ci := 0) (v := .ref (f 2)) (C := R_Plan) (T := T_Plan) (N := 12) hx hb hts i_Plan hown hK hP 14 rfl rfl 3 (by decide) (hts _ mb_117) (fun _ h9 => h9) rfl d_Ord_step_116 ?_
          refine lv_iload_n hx hb d_Ord_step_119 rfl (lv_at hl 1 rfl) ?_
          refine va_iald hx hb hK hP 17 0 rfl rfl hi6 d_Ord_step_120 ?_
          refine lv_topi (fun f_12 ef_12 => ?_)
          have e9 : r_Ord_step y x P Q S v0 v1 = (0, f_12, y, x, P, Q, S) := by
            unfold r_Ord_step
            refine (if_neg c_1).trans ?_
            refine lt_eq ef_2 ?_
            refine lt_eq ef_3 ?_
            refine (if_neg c_4).trans ?_
            refine lt_eq ef_5 ?_
            refine (if_neg c_6).trans ?_
            refine (if_neg c_7).trans ?_
            refine (if_neg c_9).trans ?_
            refine (if_pos c_11).trans ?_
            refine lt_eq ef_12 ?_
            rfl
          exact hx_ret (by rw [e9]) (Nat.zero_le _) (Nat.zero_le _) (W.iret (v := f_12) hx hb hr (fun t ht hW => ⟨(by rw [e9]), ⟨(by rw [e9, ht]; try dsimp only; exact hP.sub [0, 1, 2, 3, 4, 5, 6, 7, 8, 9, 10, 11, 12, 13, 14, 15, 16, 17, 18, 19, 20, 21, 22, 23, 24, 25, 26, 27, 28, 29, 30, 31, 32, 33] rfl), (by rw [e9]; try dsimp only; exact hD.sub [0, 1, 2, 3, 4, 5, 6, 7, 8, 9, 10, 11, 12, 13, 14, 15, 16, 17, 18, 19, 20, 21, 22, 23, 24, 25, 26, 27, 28, 29, 30, 31, 32, 33] (by decide) rfl)⟩, hS.F ht⟩) hS.2.2 d_Ord_step_121)
        by_cases c_13 : v1 = 3
        · refine lv_tableIn (tgt := 122) hx hb d_Ord_step_55 (by rw [c_13]; decide) (by rw [c_13]; decide) (by rw [c_13]; rfl) (by decide) ?_
          refine lv_aload_n hx hb d_Ord_step_122 rfl (lv_at hl 0 rfl) ?_
          refine va_get (D := D) (ci := 3) (v := .ref aa) (C := R_Ord) (T := T_Ord) (N := 5) hx hb hts i_Ord hown hK hP 0 rfl rfl 2 (by decide) (hts _ mb_192) (fun _ h9 => h9) rfl d_Ord_step_123 ?_
          refine va_get (D := D) (ci := 0) (v := .ref (f 3)) (C := R_Plan) (T := T_Plan) (N := 12) hx hb hts i_Plan hown hK hP 14 rfl rfl 4 (by decide) (hts _ mb_119) (fun _ h9 => h9) rfl d_Ord_step_126 ?_
          refine lv_iload_n hx hb d_Ord_step_129 rfl (lv_at hl 1 rfl) ?_
          refine va_iald hx hb hK hP 18 0 rfl rfl hi6 d_Ord_step_130 ?_
          refine lv_topi (fun f_14 ef_14 => ?_)
          have e9 : r_Ord_step y x P Q S v0 v1 = (0, f_14, y, x, P, Q, S) := by
            unfold r_Ord_step
            refine (if_neg c_1).trans ?_
            refine lt_eq ef_2 ?_
            refine lt_eq ef_3 ?_
            refine (if_neg c_4).trans ?_
            refine lt_eq ef_5 ?_
            refine (if_neg c_6).trans ?_
            refine (if_neg c_7).trans ?_
            refine (if_neg c_9).trans ?_
            refine (if_neg c_11).trans ?_
            refine (if_pos c_13).trans ?_
            refine lt_eq ef_14 ?_
            rfl
          exact hx_ret (by rw [e9]) (Nat.zero_le _) (Nat.zero_le _) (W.iret (v := f_14) hx hb hr (fun t ht hW => ⟨(by rw [e9]), ⟨(by rw [e9, ht]; try dsimp only; exact hP.sub [0, 1, 2, 3, 4, 5, 6, 7, 8, 9, 10, 11, 12, 13, 14, 15, 16, 17, 18, 19, 20, 21, 22, 23, 24, 25, 26, 27, 28, 29, 30, 31, 32, 33] rfl), (by rw [e9]; try dsimp only; exact hD.sub [0, 1, 2, 3, 4, 5, 6, 7, 8, 9, 10, 11, 12, 13, 14, 15, 16, 17, 18, 19, 20, 21, 22, 23, 24, 25, 26, 27, 28, 29, 30, 31, 32, 33] (by decide) rfl)⟩, hS.F ht⟩) hS.2.2 d_Ord_step_131)
        by_cases c_15 : v1 = 4
        · refine lv_tableIn (tgt := 132) hx hb d_Ord_step_55 (by rw [c_15]; decide) (by rw [c_15]; decide) (by rw [c_15]; rfl) (by decide) ?_
          refine lv_aload_n hx hb d_Ord_step_132 rfl (lv_at hl 0 rfl) ?_
          refine va_get (D := D) (ci := 3) (v := .ref aa) (C := R_Ord) (T := T_Ord) (N := 5) hx hb hts i_Ord hown hK hP 0 rfl rfl 2 (by decide) (hts _ mb_192) (fun _ h9 => h9) rfl d_Ord_step_133 ?_
          refine va_get (D := D) (ci := 0) (v := .ref (f 4)) (C := R_Plan) (T := T_Plan) (N := 12) hx hb hts i_Plan hown hK hP 14 rfl rfl 5 (by decide) (hts _ mb_121) (fun _ h9 => h9) rfl d_Ord_step_136 ?_
          refine lv_iload_n hx hb d_Ord_step_139 rfl (lv_at hl 1 rfl) ?_
          refine va_iald hx hb hK hP 19 0 rfl rfl hi6 d_Ord_step_140 ?_
          refine lv_topi (fun f_16 ef_16 => ?_)
          have e9 : r_Ord_step y x P Q S v0 v1 = (0, f_16, y, x, P, Q, S) := by
            unfold r_Ord_step
            refine (if_neg c_1).trans ?_
            refine lt_eq ef_2 ?_
            refine lt_eq ef_3 ?_
            refine (if_neg c_4).trans ?_
            refine lt_eq ef_5 ?_
            refine (if_neg c_6).trans ?_
            refine (if_neg c_7).trans ?_
            refine (if_neg c_9).trans ?_
            refine (if_neg c_11).trans ?_
            refine (if_neg c_13).trans ?_
            refine (if_pos c_15).trans ?_
            refine lt_eq ef_16 ?_
            rfl
          exact hx_ret (by rw [e9]) (Nat.zero_le _) (Nat.zero_le _) (W.iret (v := f_16) hx hb hr (fun t ht hW => ⟨(by rw [e9]), ⟨(by rw [e9, ht]; try dsimp only; exact hP.sub [0, 1, 2, 3, 4, 5, 6, 7, 8, 9, 10, 11, 12, 13, 14, 15, 16, 17, 18, 19, 20, 21, 22, 23, 24, 25, 26, 27, 28, 29, 30, 31, 32, 33] rfl), (by rw [e9]; try dsimp only; exact hD.sub [0, 1, 2, 3, 4, 5, 6, 7, 8, 9, 10, 11, 12, 13, 14, 15, 16, 17, 18, 19, 20, 21, 22, 23, 24, 25, 26, 27, 28, 29, 30, 31, 32, 33] (by decide) rfl)⟩, hS.F ht⟩) hS.2.2 d_Ord_step_141)
        by_cases c_17 : v1 = 5
        · refine lv_tableIn (tgt := 142) hx hb d_Ord_step_55 (by rw [c_17]; decide) (by rw [c_17]; decide) (by rw [c_17]; rfl) (by decide) ?_
          refine lv_aload_n hx hb d_Ord_step_142 rfl (lv_at hl 0 rfl) ?_
          refine va_get (D := D) (ci := 3) (v := .ref aa) (C := R_Ord) (T := T_Ord) (N := 5) hx hb hts i_Ord hown hK hP 0 rfl rfl 2 (by decide) (hts _ mb_192) (fun _ h9 => h9) rfl d_Ord_step_143 ?_
          refine va_get (D := D) (ci := 0) (v := .ref (f 5)) (C := R_Plan) (T := T_Plan) (N := 12) hx hb hts i_Plan hown hK hP 14 rfl rfl 6 (by decide) (hts _ mb_123) (fun _ h9 => h9) rfl d_Ord_step_146 ?_
          refine lv_iload_n hx hb d_Ord_step_149 rfl (lv_at hl 1 rfl) ?_
          refine va_iald hx hb hK hP 20 0 rfl rfl hi6 d_Ord_step_150 ?_
          refine lv_topi (fun f_18 ef_18 => ?_)
          have e9 : r_Ord_step y x P Q S v0 v1 = (0, f_18, y, x, P, Q, S) := by
            unfold r_Ord_step
            refine (if_neg c_1).trans ?_
            refine lt_eq ef_2 ?_
            refine lt_eq ef_3 ?_
            refine (if_neg c_4).trans ?_
            refine lt_eq ef_5 ?_
            refine (if_neg c_6).trans ?_
            refine (if_neg c_7).trans ?_
            refine (if_neg c_9).trans ?_
            refine (if_neg c_11).trans ?_
            refine (if_neg c_13).trans ?_
            refine (if_neg c_15).trans ?_
            refine (if_pos c_17).trans ?_
            refine lt_eq ef_18 ?_
            rfl
          exact hx_ret (by rw [e9]) (Nat.zero_le _) (Nat.zero_le _) (W.iret (v := f_18) hx hb hr (fun t ht hW => ⟨(by rw [e9]), ⟨(by rw [e9, ht]; try dsimp only; exact hP.sub [0, 1, 2, 3, 4, 5, 6, 7, 8, 9, 10, 11, 12, 13, 14, 15, 16, 17, 18, 19, 20, 21, 22, 23, 24, 25, 26, 27, 28, 29, 30, 31, 32, 33] rfl), (by rw [e9]; try dsimp only; exact hD.sub [0, 1, 2, 3, 4, 5, 6, 7, 8, 9, 10, 11, 12, 13, 14, 15, 16, 17, 18, 19, 20, 21, 22, 23, 24, 25, 26, 27, 28, 29, 30, 31, 32, 33] (by decide) rfl)⟩, hS.F ht⟩) hS.2.2 d_Ord_step_151)
        refine lv_tableOut (tgt := 152) hx hb d_Ord_step_55 (by have g0 := lv_neT c_7 (by decide : (0 : Int32).toInt = 0); have g1 := lv_neT c_9 (by decide : (1 : Int32).toInt = 1); have g2 := lv_neT c_11 (by decide : (2 : Int32).toInt = 2); have g3 := lv_neT c_13 (by decide : (3 : Int32).toInt = 3); have g4 := lv_neT c_15 (by decide : (4 : Int32).toInt = 4); have g5 := lv_neT c_17 (by decide : (5 : Int32).toInt = 5); omega) (by decide) ?_
        refine lv_aload_n hx hb d_Ord_step_152 rfl (lv_at hl 0 rfl) ?_
        refine va_get (D := D) (ci := 3) (v := .ref aa) (C := R_Ord) (T := T_Ord) (N := 5) hx hb hts i_Ord hown hK hP 0 rfl rfl 2 (by decide) (hts _ mb_192) (fun _ h9 => h9) rfl d_Ord_step_153 ?_
        refine va_get (D := D) (ci := 0) (v := .ref (f 6)) (C := R_Plan) (T := T_Plan) (N := 12) hx hb hts i_Plan hown hK hP 14 rfl rfl 7 (by decide) (hts _ mb_125) (fun _ h9 => h9) rfl d_Ord_step_156 ?_
        refine lv_iload_n hx hb d_Ord_step_159 rfl (lv_at hl 1 rfl) ?_
        refine va_iald hx hb hK hP 21 0 rfl rfl hi6 d_Ord_step_160 ?_
        refine lv_topi (fun f_19 ef_19 => ?_)
        have e9 : r_Ord_step y x P Q S v0 v1 = (0, f_19, y, x, P, Q, S) := by
          unfold r_Ord_step
          refine (if_neg c_1).trans ?_
          refine lt_eq ef_2 ?_
          refine lt_eq ef_3 ?_
          refine (if_neg c_4).trans ?_
          refine lt_eq ef_5 ?_
          refine (if_neg c_6).trans ?_
          refine (if_neg c_7).trans ?_
          refine (if_neg c_9).trans ?_
          refine (if_neg c_11).trans ?_
          refine (if_neg c_13).trans ?_
          refine (if_neg c_15).trans ?_
          refine (if_neg c_17).trans ?_
          refine lt_eq ef_19 ?_
          rfl
        exact hx_ret (by rw [e9]) (Nat.zero_le _) (Nat.zero_le _) (W.iret (v := f_19) hx hb hr (fun t ht hW => ⟨(by rw [e9]), ⟨(by rw [e9, ht]; try dsimp only; exact hP.sub [0, 1, 2, 3, 4, 5, 6, 7, 8, 9, 10, 11, 12, 13, 14, 15, 16, 17, 18, 19, 20, 21, 22, 23, 24, 25, 26, 27, 28, 29, 30, 31, 32, 33] rfl), (by rw [e9]; try dsimp only; exact hD.sub [0, 1, 2, 3, 4, 5, 6, 7, 8, 9, 10, 11, 12, 13, 14, 15, 16, 17, 18, 19, 20, 21, 22, 23, 24, 25, 26, 27, 28, 29, 30, 31, 32, 33] (by decide) rfl)⟩, hS.F ht⟩) hS.2.2 d_Ord_step_161)
      · skip
        have e9 : r_Ord_step y x P Q S v0 v1 = (3, 0, y, x, P, Q, S) := by
          unfold r_Ord_step
          refine (if_neg c_1).trans ?_
          refine lt_eq ef_2 ?_
          refine lt_eq ef_3 ?_
          refine (if_neg c_4).trans ?_
          refine lt_eq ef_5 ?_
          refine (if_pos c_6).trans ?_
          rfl
        rw [e9]
        exact hx_throw (k := 3) hx hb htr hown hlocks hex hml hts hY (by try dsimp only; exact hP.sub [0, 1, 2, 3, 4, 5, 6, 7, 8, 9, 10, 11, 12, 13, 14, 15, 16, 17, 18, 19, 20, 21, 22, 23, 24, 25, 26, 27, 28, 29, 30, 31, 32, 33] rfl) (by try dsimp only; exact hD.sub [0, 1, 2, 3, 4, 5, 6, 7, 8, 9, 10, 11, 12, 13, 14, 15, 16, 17, 18, 19, 20, 21, 22, 23, 24, 25, 26, 27, 28, 29, 30, 31, 32, 33] (by decide) rfl) hS hA hst (by decide) hl.1 mb_379 mb_11 (i1 := 146) (text := "no such step or what") (by decide) d_Ord_step_44 d_Ord_step_47 d_Ord_step_48 d_Ord_step_50 d_Ord_step_53 ⟨Nat.le_of_ble_eq_true rfl, Nat.le_of_ble_eq_true rfl⟩ ⟨Nat.le_refl _, Nat.le_refl _⟩ ⟨Nat.le_of_ble_eq_true rfl, Nat.le_of_ble_eq_true rfl⟩
  · skip
    have e9 : r_Ord_step y x P Q S v0 v1 = (1, 0, y, x, P, Q, S) := by
      unfold r_Ord_step
      refine (if_pos c_1).trans ?_
      rfl
    rw [e9]
    exact hx_throw (k := 1) hx hb htr hown hlocks hex hml hts hY (by try dsimp only; exact hP.sub [0, 1, 2, 3, 4, 5, 6, 7, 8, 9, 10, 11, 12, 13, 14, 15, 16, 17, 18, 19, 20, 21, 22, 23, 24, 25, 26, 27, 28, 29, 30, 31, 32, 33] rfl) (by try dsimp only; exact hD.sub [0, 1, 2, 3, 4, 5, 6, 7, 8, 9, 10, 11, 12, 13, 14, 15, 16, 17, 18, 19, 20, 21, 22, 23, 24, 25, 26, 27, 28, 29, 30, 31, 32, 33] (by decide) rfl) hS hA hst (by decide) hl.1 mb_274 mb_9 (i1 := 144) (text := "there is no plan") (by decide) d_Ord_step_7 d_Ord_step_10 d_Ord_step_11 d_Ord_step_13 d_Ord_step_16 ⟨Nat.le_of_ble_eq_true rfl, Nat.le_of_ble_eq_true rfl⟩ ⟨Nat.le_refl _, Nat.le_refl _⟩ ⟨Nat.le_of_ble_eq_true rfl, Nat.le_of_ble_eq_true rfl⟩
def r_Ord_told (y x : Nat → Int32) (P Q S : Nat → Nat → Int32) (v0 : Int32) : Nat × Int32 × TC := lt (r_Ord_within v0 0 3) fun (f_1 : Int32) => if f_1 = 0 then ((3, 0, y, x, P, Q, S)) else (if y 0 = 0 then ((1, 0, y, x, P, Q, S)) else (if v0 = 0 then (lt (r_Plan_costOf S Q (S 0 0)) fun (f_5 : Int32) => (0, f_5, y, x, P, Q, S)) else (if v0 = 1 then (lt (Q 8 (S 0 0).toNatClampNeg) fun (f_7 : Int32) => (0, f_7, y, x, P, Q, S)) else (if v0 = 2 then (lt (Q 9 (S 0 0).toNatClampNeg) fun (f_9 : Int32) => (0, f_9, y, x, P, Q, S)) else (lt (Q 10 (S 0 0).toNatClampNeg) fun (f_10 : Int32) => (0, f_10, y, x, P, Q, S))))))
set_option maxHeartbeats 4000000 in
set_option maxRecDepth 100000 in
theorem k_Ord_told (l : Launch) (D : va_G) (cA cZ cL : ClassId) (u b o aa a : Nat) (d f g : Nat → Nat) (y x : Nat → Int32) (P Q S : Nat → Nat → Int32) (v0 : Int32) (htr : l.stackTraces = false) (hG : ∀ j, vp_in (S 1 j) 6) (hN : ∃ n : Nat, n ≤ 6 ∧ S 0 0 = nI n) (hp : ∀ j, vp_in (P 0 j) 6) (hq : ∀ j, vp_in (Q 0 j) 6) : MetX l y_Ord_told (Cond.code y_Ord_told c_Ord_told 2 (some .int) :: base) ({ frames := 6, cells := 1, slots := 6, locals := 90 } : Room) D cls (tys3 cA cZ cL) ([.ref u, .int v0]) (wCls cA u b o aa a d f g y x P Q S) (r_Ord_told y x P Q S v0).1 (some (.int (r_Ord_told y x P Q S v0).2.1)) (wCls cA u b o aa a d f g ((r_Ord_told y x P Q S v0).2.2).1 ((r_Ord_told y x P Q S v0).2.2).2.1 ((r_Ord_told y x P Q S v0).2.2).2.2.1 ((r_Ord_told y x P Q S v0).2.2).2.2.2.1 ((r_Ord_told y x P Q S v0).2.2).2.2.2.2) := by
  refine MetX.ofW (cc := c_Ord_told) (maxL := 2) (ret := (some .int)) (by decide) rfl ?_
  intro sz p e s m args below meth c s₁ B hml hex hv
  obtain ⟨rfl, ⟨hsz, hP, hK, hZ, hD0⟩, hY⟩ := hv
  have hst := hx_nost hP
  have hx := B.exec
  have hb := B.bytes
  have hr := B.returns
  have hts0 := atoms_spec (ws := (Cond.code y_Ord_told c_Ord_told 2 (some .int) :: base)) B.pre
  have hts : ∀ w ∈ base, w.before _ s = true := fun w h => hts0 w (List.mem_cons_of_mem _ h)
  have hown : s.vm.findClass R_Ord = some m.cls := findClass_of_methodNamed B.named
  have hlocks := B.notSynchronized
  have hP : va_P D cls [(u, .inr (3, [.ref b, .ref o, .ref aa, .int (y 0), .int (y 1)])), (o, .inr (1, [.ref b, .ref a, .int (x 0), .int (x 1), .int (x 2), .int (x 3), .int (x 4), .int (x 5)])), (a, .inr (0, [.ref b, .ref (d 0), .ref (d 1), .ref (d 2), .ref (d 3), .ref (d 4), .ref (d 5), .ref (d 6), .ref (d 7), .ref (d 8), .ref (d 9), .ref (d 10)])), (d 0, .inl (cA, 6, .inl (P 0))), (d 1, .inl (cA, 6, .inl (P 1))), (d 2, .inl (cA, 6, .inl (P 2))), (d 3, .inl (cA, 6, .inl (P 3))), (d 4, .inl (cA, 6, .inl (P 4))), (d 5, .inl (cA, 6, .inl (P 5))), (d 6, .inl (cA, 6, .inl (P 6))), (d 7, .inl (cA, 6, .inl (P 7))), (d 8, .inl (cA, 7, .inl (P 8))), (d 9, .inl (cA, 7, .inl (P 9))), (d 10, .inl (cA, 7, .inl (P 10))), (aa, .inr (0, [.ref b, .ref (f 0), .ref (f 1), .ref (f 2), .ref (f 3), .ref (f 4), .ref (f 5), .ref (f 6), .ref (f 7), .ref (f 8), .ref (f 9), .ref (f 10)])), (f 0, .inl (cA, 6, .inl (Q 0))), (f 1, .inl (cA, 6, .inl (Q 1))), (f 2, .inl (cA, 6, .inl (Q 2))), (f 3, .inl (cA, 6, .inl (Q 3))), (f 4, .inl (cA, 6, .inl (Q 4))), (f 5, .inl (cA, 6, .inl (Q 5))), (f 6, .inl (cA, 6, .inl (Q 6))), (f 7, .inl (cA, 6, .inl (Q 7))), (f 8, .inl (cA, 7, .inl (Q 8))), (f 9, .inl (cA, 7, .inl (Q 9))), (f 10, .inl (cA, 7, .inl (Q 10))), (b, .inr (2, [.int (S 0 0), .ref (g 1), .ref (g 2), .ref (g 3), .ref (g 4), .ref (g 5), .ref (g 6), .int (S 0 1), .int (S 0 2), .int (S 0 3), .int (S 0 4), .int (S 0 5), .int (S 0 6), .int (S 0 7), .ref (g 7)])), (g 1, .inl (cA, 6, .inl (S 1))), (g 2, .inl (cA, 6, .inl (S 2))), (g 3, .inl (cA, 6, .inl (S 3))), (g 4, .inl (cA, 6, .inl (S 4))), (g 5, .inl (cA, 6, .inl (S 5))), (g 6, .inl (cA, 6, .inl (S 6))), (g 7, .inl (cA, 36, .inl (S 7)))] s.heap := hP
  subst hsz
  have hD := hD0.self (sz := s.heap.size)
  generalize hAe : va_A (wCls cA u b o aa a d f g y x P Q S) s.heap.size = A at hD hst ⊢
  have hA : ∀ q : Nat, s.heap.size ≤ q → A q := fun q h => by rw [← hAe]; exact Or.inr h
  have hS : va_S A s.heap s.heap [] := va_S.rf
  have hD : va_D A [(u, .inr (3, [.ref b, .ref o, .ref aa, .int (y 0), .int (y 1)])), (o, .inr (1, [.ref b, .ref a, .int (x 0), .int (x 1), .int (x 2), .int (x 3), .int (x 4), .int (x 5)])), (a, .inr (0, [.ref b, .ref (d 0), .ref (d 1), .ref (d 2), .ref (d 3), .ref (d 4), .ref (d 5), .ref (d 6), .ref (d 7), .ref (d 8), .ref (d 9), .ref (d 10)])), (d 0, .inl (cA, 6, .inl (P 0))), (d 1, .inl (cA, 6, .inl (P 1))), (d 2, .inl (cA, 6, .inl (P 2))), (d 3, .inl (cA, 6, .inl (P 3))), (d 4, .inl (cA, 6, .inl (P 4))), (d 5, .inl (cA, 6, .inl (P 5))), (d 6, .inl (cA, 6, .inl (P 6))), (d 7, .inl (cA, 6, .inl (P 7))), (d 8, .inl (cA, 7, .inl (P 8))), (d 9, .inl (cA, 7, .inl (P 9))), (d 10, .inl (cA, 7, .inl (P 10))), (aa, .inr (0, [.ref b, .ref (f 0), .ref (f 1), .ref (f 2), .ref (f 3), .ref (f 4), .ref (f 5), .ref (f 6), .ref (f 7), .ref (f 8), .ref (f 9), .ref (f 10)])), (f 0, .inl (cA, 6, .inl (Q 0))), (f 1, .inl (cA, 6, .inl (Q 1))), (f 2, .inl (cA, 6, .inl (Q 2))), (f 3, .inl (cA, 6, .inl (Q 3))), (f 4, .inl (cA, 6, .inl (Q 4))), (f 5, .inl (cA, 6, .inl (Q 5))), (f 6, .inl (cA, 6, .inl (Q 6))), (f 7, .inl (cA, 6, .inl (Q 7))), (f 8, .inl (cA, 7, .inl (Q 8))), (f 9, .inl (cA, 7, .inl (Q 9))), (f 10, .inl (cA, 7, .inl (Q 10))), (b, .inr (2, [.int (S 0 0), .ref (g 1), .ref (g 2), .ref (g 3), .ref (g 4), .ref (g 5), .ref (g 6), .int (S 0 1), .int (S 0 2), .int (S 0 3), .int (S 0 4), .int (S 0 5), .int (S 0 6), .int (S 0 7), .ref (g 7)])), (g 1, .inl (cA, 6, .inl (S 1))), (g 2, .inl (cA, 6, .inl (S 2))), (g 3, .inl (cA, 6, .inl (S 3))), (g 4, .inl (cA, 6, .inl (S 4))), (g 5, .inl (cA, 6, .inl (S 5))), (g 6, .inl (cA, 6, .inl (S 6))), (g 7, .inl (cA, 36, .inl (S 7)))] := hD
  have hl := lv_entry ([.ref u, .int v0]) (n := 2) (Nat.le_of_ble_eq_true rfl)
  rw [lg_entry_eq]
  generalize (lg_sl ([.ref u, .int v0]) ++ List.replicate (2 - (lg_sl ([.ref u, .int v0])).length) Slot.unset).toArray = ls at hl ⊢
  have hl : lv_has ls 2 [(0, .ref u), (1, .int v0)] := hl
  refine lv_iload_n hx hb d_Ord_told_0 rfl (lv_at hl 1 rfl) ?_
  refine lv_iconst (v := 0) hx hb d_Ord_told_1 (by decide) ?_
  refine lv_iconst (v := 3) hx hb d_Ord_told_2 (by decide) ?_
  refine hr_callS (As := [.int v0, .int 0, .int 3]) (rest := []) ⟨hx, hb, hml, hown, hts⟩ (k_Ord_within l D cA cZ cL v0 0 3) (bs_S 3 hts mb_239 (hts _ mb_1) (hts _ mb_343) (hts _ mb_238) (by decide +kernel) ⟨Nat.le_of_ble_eq_true rfl, Nat.le_of_ble_eq_true rfl⟩) hK hZ hP [] rfl rfl hl.1 rfl (lv_room (Nat.le_of_ble_eq_true rfl)) d_Ord_told_3 ⟨Nat.zero_le _, Nat.zero_le _⟩ ?_
  refine lv_topi (fun f_1 ef_1 => ?_)
  refine lv_if_ne (tgt := 19) hx hb d_Ord_told_6 (by decide) (fun c_2 => ?_) (fun c_2 => ?_)
  · skip
    refine lv_aload_n hx hb d_Ord_told_19 rfl (lv_at hl 0 rfl) ?_
    refine va_get (D := D) (ci := 3) (v := .int (y 0)) (C := R_Ord) (T := T_Ord) (N := 5) hx hb hts i_Ord hown hK hP 0 rfl rfl 3 (by decide) (hts _ mb_193) (fun _ h9 => h9) rfl d_Ord_told_20 ?_
    refine lv_if_ne (tgt := 36) hx hb d_Ord_told_23 (by decide) (fun c_3 => ?_) (fun c_3 => ?_)
    · skip
      refine lv_iload_n hx hb d_Ord_told_36 rfl (lv_at hl 1 rfl) ?_
      by_cases c_4 : v0 = 0
      · refine lv_tableIn (tgt := 64) hx hb d_Ord_told_37 (by rw [c_4]; decide) (by rw [c_4]; decide) (by rw [c_4]; rfl) (by decide) ?_
        refine lv_aload_n hx hb d_Ord_told_64 rfl (lv_at hl 0 rfl) ?_
        refine va_get (D := D) (ci := 3) (v := .ref aa) (C := R_Ord) (T := T_Ord) (N := 5) hx hb hts i_Ord hown hK hP 0 rfl rfl 2 (by decide) (hts _ mb_192) (fun _ h9 => h9) rfl d_Ord_told_65 ?_
        refine lv_aload_n hx hb d_Ord_told_68 rfl (lv_at hl 0 rfl) ?_
        refine va_get (D := D) (ci := 3) (v := .ref b) (C := R_Ord) (T := T_Ord) (N := 5) hx hb hts i_Ord hown hK hP 0 rfl rfl 0 (by decide) (hts _ mb_190) (fun _ h9 => h9) rfl d_Ord_told_69 ?_
        refine va_get (D := D) (ci := 2) (v := .int (S 0 0)) (C := R_Shop) (T := T_Shop) (N := 15) hx hb hts i_Shop hown hK hP 26 rfl rfl 0 (by decide) (hts _ mb_29) (fun _ h9 => h9) rfl d_Ord_told_72 ?_
        refine hr_callV (C := R_Plan) (T := T_Plan) (N := 12) (As := [.int (S 0 0)]) (rest := []) ⟨hx, hb, hml, hown, hts⟩ (k_Plan_costOf l D cA cZ cL aa f b g S Q (S 0 0) (in7_N hN)) (bv_V 1 hts mb_442 (hts _ mb_4) (hts _ mb_461) (hts _ mb_440) (hts _ mb_441) (by decide +kernel) ⟨Nat.le_of_ble_eq_true rfl, Nat.le_of_ble_eq_true rfl⟩) hK hZ hP [14, 15, 16, 17, 18, 19, 20, 21, 22, 23, 24, 25, 26, 27, 28, 29, 30, 31, 32, 33] rfl 14 0 rfl rfl rfl hl.1 rfl (lv_room (Nat.le_of_ble_eq_true rfl)) d_Ord_told_75 ⟨Nat.zero_le _, Nat.zero_le _⟩ ?_
        refine lv_topi (fun f_5 ef_5 => ?_)
        have e9 : r_Ord_told y x P Q S v0 = (0, f_5, y, x, P, Q, S) := by
          unfold r_Ord_told
          refine lt_eq ef_1 ?_
          refine (if_neg c_2).trans ?_
          refine (if_neg c_3).trans ?_
          refine (if_pos c_4).trans ?_
          refine lt_eq ef_5 ?_
          rfl
        exact hx_ret (by rw [e9]) (Nat.zero_le _) (Nat.zero_le _) (W.iret (v := f_5) hx hb hr (fun t ht hW => ⟨(by rw [e9]), ⟨(by rw [e9, ht]; try dsimp only; exact hP.sub [0, 1, 2, 3, 4, 5, 6, 7, 8, 9, 10, 11, 12, 13, 14, 15, 16, 17, 18, 19, 20, 21, 22, 23, 24, 25, 26, 27, 28, 29, 30, 31, 32, 33] rfl), (by rw [e9]; try dsimp only; exact hD.sub [0, 1, 2, 3, 4, 5, 6, 7, 8, 9, 10, 11, 12, 13, 14, 15, 16, 17, 18, 19, 20, 21, 22, 23, 24, 25, 26, 27, 28, 29, 30, 31, 32, 33] (by decide) rfl)⟩, hS.F ht⟩) hS.2.2 d_Ord_told_78)
      by_cases c_6 : v0 = 1
      · refine lv_tableIn (tgt := 79) hx hb d_Ord_told_37 (by rw [c_6]; decide) (by rw [c_6]; decide) (by rw [c_6]; rfl) (by decide) ?_
        refine lv_aload_n hx hb d_Ord_told_79 rfl (lv_at hl 0 rfl) ?_
        refine va_get (D := D) (ci := 3) (v := .ref aa) (C := R_Ord) (T := T_Ord) (N := 5) hx hb hts i_Ord hown hK hP 0 rfl rfl 2 (by decide) (hts _ mb_192) (fun _ h9 => h9) rfl d_Ord_told_80 ?_
        refine va_get (D := D) (ci := 0) (v := .ref (f 8)) (C := R_Plan) (T := T_Plan) (N := 12) hx hb hts i_Plan hown hK hP 14 rfl rfl 9 (by decide) (hts _ mb_128) (fun _ h9 => h9) rfl d_Ord_told_83 ?_
        refine lv_aload_n hx hb d_Ord_told_86 rfl (lv_at hl 0 rfl) ?_
        refine va_get (D := D) (ci := 3) (v := .ref b) (C := R_Ord) (T := T_Ord) (N := 5) hx hb hts i_Ord hown hK hP 0 rfl rfl 0 (by decide) (hts _ mb_190) (fun _ h9 => h9) rfl d_Ord_told_87 ?_
        refine va_get (D := D) (ci := 2) (v := .int (S 0 0)) (C := R_Shop) (T := T_Shop) (N := 15) hx hb hts i_Shop hown hK hP 26 rfl rfl 0 (by decide) (hts _ mb_29) (fun _ h9 => h9) rfl d_Ord_told_90 ?_
        refine va_iald hx hb hK hP 23 0 rfl rfl (in7_N hN) d_Ord_told_93 ?_
        refine lv_topi (fun f_7 ef_7 => ?_)
        have e9 : r_Ord_told y x P Q S v0 = (0, f_7, y, x, P, Q, S) := by
          unfold r_Ord_told
          refine lt_eq ef_1 ?_
          refine (if_neg c_2).trans ?_
          refine (if_neg c_3).trans ?_
          refine (if_neg c_4).trans ?_
          refine (if_pos c_6).trans ?_
          refine lt_eq ef_7 ?_
          rfl
        exact hx_ret (by rw [e9]) (Nat.zero_le _) (Nat.zero_le _) (W.iret (v := f_7) hx hb hr (fun t ht hW => ⟨(by rw [e9]), ⟨(by rw [e9, ht]; try dsimp only; exact hP.sub [0, 1, 2, 3, 4, 5, 6, 7, 8, 9, 10, 11, 12, 13, 14, 15, 16, 17, 18, 19, 20, 21, 22, 23, 24, 25, 26, 27, 28, 29, 30, 31, 32, 33] rfl), (by rw [e9]; try dsimp only; exact hD.sub [0, 1, 2, 3, 4, 5, 6, 7, 8, 9, 10, 11, 12, 13, 14, 15, 16, 17, 18, 19, 20, 21, 22, 23, 24, 25, 26, 27, 28, 29, 30, 31, 32, 33] (by decide) rfl)⟩, hS.F ht⟩) hS.2.2 d_Ord_told_94)
      by_cases c_8 : v0 = 2
      · refine lv_tableIn (tgt := 95) hx hb d_Ord_told_37 (by rw [c_8]; decide) (by rw [c_8]; decide) (by rw [c_8]; rfl) (by decide) ?_
        refine lv_aload_n hx hb d_Ord_told_95 rfl (lv_at hl 0 rfl) ?_
        refine va_get (D := D) (ci := 3) (v := .ref aa) (C := R_Ord) (T := T_Ord) (N := 5) hx hb hts i_Ord hown hK hP 0 rfl rfl 2 (by decide) (hts _ mb_192) (fun _ h9 => h9) rfl d_Ord_told_96 ?_
        refine va_get (D := D) (ci := 0) (v := .ref (f 9)) (C := R_Plan) (T := T_Plan) (N := 12) hx hb hts i_Plan hown hK hP 14 rfl rfl 10 (by decide) (hts _ mb_130) (fun _ h9 => h9) rfl d_Ord_told_99 ?_
        refine lv_aload_n hx hb d_Ord_told_102 rfl (lv_at hl 0 rfl) ?_
        refine va_get (D := D) (ci := 3) (v := .ref b) (C := R_Ord) (T := T_Ord) (N := 5) hx hb hts i_Ord hown hK hP 0 rfl rfl 0 (by decide) (hts _ mb_190) (fun _ h9 => h9) rfl d_Ord_told_103 ?_
        refine va_get (D := D) (ci := 2) (v := .int (S 0 0)) (C := R_Shop) (T := T_Shop) (N := 15) hx hb hts i_Shop hown hK hP 26 rfl rfl 0 (by decide) (hts _ mb_29) (fun _ h9 => h9) rfl d_Ord_told_106 ?_
        refine va_iald hx hb hK hP 24 0 rfl rfl (in7_N hN) d_Ord_told_109 ?_
        refine lv_topi (fun f_9 ef_9 => ?_)
        have e9 : r_Ord_told y x P Q S v0 = (0, f_9, y, x, P, Q, S) := by
          unfold r_Ord_told
          refine lt_eq ef_1 ?_
          refine (if_neg c_2).trans ?_
          refine (if_neg c_3).trans ?_
          refine (if_neg c_4).trans ?_
          refine (if_neg c_6).trans ?_
          refine (if_pos c_8).trans ?_
          refine lt_eq ef_9 ?_
          rfl
        exact hx_ret (by rw [e9]) (Nat.zero_le _) (Nat.zero_le _) (W.iret (v := f_9) hx hb hr (fun t ht hW => ⟨(by rw [e9]), ⟨(by rw [e9, ht]; try dsimp only; exact hP.sub [0, 1, 2, 3, 4, 5, 6, 7, 8, 9, 10, 11, 12, 13, 14, 15, 16, 17, 18, 19, 20, 21, 22, 23, 24, 25, 26, 27, 28, 29, 30, 31, 32, 33] rfl), (by rw [e9]; try dsimp only; exact hD.sub [0, 1, 2, 3, 4, 5, 6, 7, 8, 9, 10, 11, 12, 13, 14, 15, 16, 17, 18, 19, 20, 21, 22, 23, 24, 25, 26, 27, 28, 29, 30, 31, 32, 33] (by decide) rfl)⟩, hS.F ht⟩) hS.2.2 d_Ord_told_110)
      refine lv_tableOut (tgt := 111) hx hb d_Ord_told_37 (by have g0 := lv_neT c_4 (by decide : (0 : Int32).toInt = 0); have g1 := lv_neT c_6 (by decide : (1 : Int32).toInt = 1); have g2 := lv_neT c_8 (by decide : (2 : Int32).toInt = 2); omega) (by decide) ?_
      refine lv_aload_n hx hb d_Ord_told_111 rfl (lv_at hl 0 rfl) ?_
      refine va_get (D := D) (ci := 3) (v := .ref aa) (C := R_Ord) (T := T_Ord) (N := 5) hx hb hts i_Ord hown hK hP 0 rfl rfl 2 (by decide) (hts _ mb_192) (fun _ h9 => h9) rfl d_Ord_told_112 ?_
      refine va_get (D := D) (ci := 0) (v := .ref (f 10)) (C := R_Plan) (T := T_Plan) (N := 12) hx hb hts i_Plan hown hK hP 14 rfl rfl 11 (by decide) (hts _ mb_132) (fun _ h9 => h9) rfl d_Ord_told_115 ?_
      refine lv_aload_n hx hb d_Ord_told_118 rfl (lv_at hl 0 rfl) ?_
      refine va_get (D := D) (ci := 3) (v := .ref b) (C := R_Ord) (T := T_Ord) (N := 5) hx hb hts i_Ord hown hK hP 0 rfl rfl 0 (by decide) (hts _ mb_190) (fun _ h9 => h9) rfl d_Ord_told_119 ?_
      refine va_get (D := D) (ci := 2) (v := .int (S 0 0)) (C := R_Shop) (T := T_Shop) (N := 15) hx hb hts i_Shop hown hK hP 26 rfl rfl 0 (by decide) (hts _ mb_29) (fun _ h9 => h9) rfl d_Ord_told_122 ?_
      refine va_iald hx hb hK hP 25 0 rfl rfl (in7_N hN) d_Ord_told_125 ?_
      refine lv_topi (fun f_10 ef_10 => ?_)
      have e9 : r_Ord_told y x P Q S v0 = (0, f_10, y, x, P, Q, S) := by
        unfold r_Ord_told
        refine lt_eq ef_1 ?_
        refine (if_neg c_2).trans ?_
        refine (if_neg c_3).trans ?_
        refine (if_neg c_4).trans ?_
        refine (if_neg c_6).trans ?_
        refine (if_neg c_8).trans ?_
        refine lt_eq ef_10 ?_
        rfl
      exact hx_ret (by rw [e9]) (Nat.zero_le _) (Nat.zero_le _) (W.iret (v := f_10) hx hb hr (fun t ht hW => ⟨(by rw [e9]), ⟨(by rw [e9, ht]; try dsimp only; exact hP.sub [0, 1, 2, 3, 4, 5, 6, 7, 8, 9, 10, 11, 12, 13, 14, 15, 16, 17, 18, 19, 20, 21, 22, 23, 24, 25, 26, 27, 28, 29, 30, 31, 32, 33] rfl), (by rw [e9]; try dsimp only; exact hD.sub [0, 1, 2, 3, 4, 5, 6, 7, 8, 9, 10, 11, 12, 13, 14, 15, 16, 17, 18, 19, 20, 21, 22, 23, 24, 25, 26, 27, 28, 29, 30, 31, 32, 33] (by decide) rfl)⟩, hS.F ht⟩) hS.2.2 d_Ord_told_126)
    · skip
      have e9 : r_Ord_told y x P Q S v0 = (1, 0, y, x, P, Q, S) := by
        unfold r_Ord_told
        refine lt_eq ef_1 ?_
        refine (if_neg c_2).trans ?_
        refine (if_pos c_3).trans ?_
        rfl
      rw [e9]
      exact hx_throw (k := 1) hx hb htr hown hlocks hex hml hts hY (by try dsimp only; exact hP.sub [0, 1, 2, 3, 4, 5, 6, 7, 8, 9, 10, 11, 12, 13, 14, 15, 16, 17, 18, 19, 20, 21, 22, 23, 24, 25, 26, 27, 28, 29, 30, 31, 32, 33] rfl) (by try dsimp only; exact hD.sub [0, 1, 2, 3, 4, 5, 6, 7, 8, 9, 10, 11, 12, 13, 14, 15, 16, 17, 18, 19, 20, 21, 22, 23, 24, 25, 26, 27, 28, 29, 30, 31, 32, 33] (by decide) rfl) hS hA hst (by decide) hl.1 mb_274 mb_9 (i1 := 144) (text := "there is no plan") (by decide) d_Ord_told_26 d_Ord_told_29 d_Ord_told_30 d_Ord_told_32 d_Ord_told_35 ⟨Nat.le_of_ble_eq_true rfl, Nat.le_of_ble_eq_true rfl⟩ ⟨Nat.le_refl _, Nat.le_refl _⟩ ⟨Nat.le_of_ble_eq_true rfl, Nat.le_of_ble_eq_true rfl⟩
  · skip
    have e9 : r_Ord_told y x P Q S v0 = (3, 0, y, x, P, Q, S) := by
      unfold r_Ord_told
      refine lt_eq ef_1 ?_
      refine (if_pos c_2).trans ?_
      rfl
    rw [e9]
    exact hx_throw (k := 3) hx hb htr hown hlocks hex hml hts hY (by try dsimp only; exact hP.sub [0, 1, 2, 3, 4, 5, 6, 7, 8, 9, 10, 11, 12, 13, 14, 15, 16, 17, 18, 19, 20, 21, 22, 23, 24, 25, 26, 27, 28, 29, 30, 31, 32, 33] rfl) (by try dsimp only; exact hD.sub [0, 1, 2, 3, 4, 5, 6, 7, 8, 9, 10, 11, 12, 13, 14, 15, 16, 17, 18, 19, 20, 21, 22, 23, 24, 25, 26, 27, 28, 29, 30, 31, 32, 33] (by decide) rfl) hS hA hst (by decide) hl.1 mb_379 mb_11 (i1 := 134) (text := "no such what") (by decide) d_Ord_told_9 d_Ord_told_12 d_Ord_told_13 d_Ord_told_15 d_Ord_told_18 ⟨Nat.le_of_ble_eq_true rfl, Nat.le_of_ble_eq_true rfl⟩ ⟨Nat.le_refl _, Nat.le_refl _⟩ ⟨Nat.le_of_ble_eq_true rfl, Nat.le_of_ble_eq_true rfl⟩
def r_Ord_tell (y x : Nat → Int32) (P Q S : Nat → Nat → Int32) (v0 v1 : Int32) : Nat × Int32 × TC := if v1 = S 0 0 then (lt (r_Ord_namesEachHeat S v0 v1) fun (f_2 : Int32) => if f_2 = 0 then ((3, 0, y, x, P, Q, S)) else (lt ((r_Plan_lay S P v0 v1).1) fun (f_4 : Int32) => if f_4 = 0 then ((4, 0, y, x, (r_Plan_lay S P v0 v1).2, Q, S)) else (lt ((r_Plan_lay S Q v0 v1).1) fun (f_6 : Int32) => lt (r_Plan_costOf S ((r_Plan_lay S Q v0 v1).2) v1) fun (f_7 : Int32) => (0, f_7, (tv [f_6, y 1]), x, (r_Plan_lay S P v0 v1).2, (r_Plan_lay S Q v0 v1).2, S)))) else ((3, 0, y, x, P, Q, S))
set_option maxHeartbeats 4000000 in
set_option maxRecDepth 100000 in
theorem k_Ord_tell (l : Launch) (D : va_G) (cA cZ cL : ClassId) (u b o aa a : Nat) (d f g : Nat → Nat) (y x : Nat → Int32) (P Q S : Nat → Nat → Int32) (v0 v1 : Int32) (htr : l.stackTraces = false) (hG : ∀ j, vp_in (S 1 j) 6) (hN : ∃ n : Nat, n ≤ 6 ∧ S 0 0 = nI n) (hp : ∀ j, vp_in (P 0 j) 6) (hq : ∀ j, vp_in (Q 0 j) 6) : MetX l y_Ord_tell (Cond.code y_Ord_tell c_Ord_tell 3 (some .int) :: base) ({ frames := 6, cells := 1, slots := 6, locals := 116 } : Room) D cls (tys3 cA cZ cL) ([.ref u, .int v0, .int v1]) (wCls cA u b o aa a d f g y x P Q S) (r_Ord_tell y x P Q S v0 v1).1 (some (.int (r_Ord_tell y x P Q S v0 v1).2.1)) (wCls cA u b o aa a d f g ((r_Ord_tell y x P Q S v0 v1).2.2).1 ((r_Ord_tell y x P Q S v0 v1).2.2).2.1 ((r_Ord_tell y x P Q S v0 v1).2.2).2.2.1 ((r_Ord_tell y x P Q S v0 v1).2.2).2.2.2.1 ((r_Ord_tell y x P Q S v0 v1).2.2).2.2.2.2) := by
  refine MetX.ofW (cc := c_Ord_tell) (maxL := 3) (ret := (some .int)) (by decide) rfl ?_
  intro sz p e s m args below meth c s₁ B hml hex hv
  obtain ⟨rfl, ⟨hsz, hP, hK, hZ, hD0⟩, hY⟩ := hv
  have hst := hx_nost hP
  have hx := B.exec
  have hb := B.bytes
  have hr := B.returns
  have hts0 := atoms_spec (ws := (Cond.code y_Ord_tell c_Ord_tell 3 (some .int) :: base)) B.pre
  have hts : ∀ w ∈ base, w.before _ s = true := fun w h => hts0 w (List.mem_cons_of_mem _ h)
  have hown : s.vm.findClass R_Ord = some m.cls := findClass_of_methodNamed B.named
  have hlocks := B.notSynchronized
  have hP : va_P D cls [(u, .inr (3, [.ref b, .ref o, .ref aa, .int (y 0), .int (y 1)])), (o, .inr (1, [.ref b, .ref a, .int (x 0), .int (x 1), .int (x 2), .int (x 3), .int (x 4), .int (x 5)])), (a, .inr (0, [.ref b, .ref (d 0), .ref (d 1), .ref (d 2), .ref (d 3), .ref (d 4), .ref (d 5), .ref (d 6), .ref (d 7), .ref (d 8), .ref (d 9), .ref (d 10)])), (d 0, .inl (cA, 6, .inl (P 0))), (d 1, .inl (cA, 6, .inl (P 1))), (d 2, .inl (cA, 6, .inl (P 2))), (d 3, .inl (cA, 6, .inl (P 3))), (d 4, .inl (cA, 6, .inl (P 4))), (d 5, .inl (cA, 6, .inl (P 5))), (d 6, .inl (cA, 6, .inl (P 6))), (d 7, .inl (cA, 6, .inl (P 7))), (d 8, .inl (cA, 7, .inl (P 8))), (d 9, .inl (cA, 7, .inl (P 9))), (d 10, .inl (cA, 7, .inl (P 10))), (aa, .inr (0, [.ref b, .ref (f 0), .ref (f 1), .ref (f 2), .ref (f 3), .ref (f 4), .ref (f 5), .ref (f 6), .ref (f 7), .ref (f 8), .ref (f 9), .ref (f 10)])), (f 0, .inl (cA, 6, .inl (Q 0))), (f 1, .inl (cA, 6, .inl (Q 1))), (f 2, .inl (cA, 6, .inl (Q 2))), (f 3, .inl (cA, 6, .inl (Q 3))), (f 4, .inl (cA, 6, .inl (Q 4))), (f 5, .inl (cA, 6, .inl (Q 5))), (f 6, .inl (cA, 6, .inl (Q 6))), (f 7, .inl (cA, 6, .inl (Q 7))), (f 8, .inl (cA, 7, .inl (Q 8))), (f 9, .inl (cA, 7, .inl (Q 9))), (f 10, .inl (cA, 7, .inl (Q 10))), (b, .inr (2, [.int (S 0 0), .ref (g 1), .ref (g 2), .ref (g 3), .ref (g 4), .ref (g 5), .ref (g 6), .int (S 0 1), .int (S 0 2), .int (S 0 3), .int (S 0 4), .int (S 0 5), .int (S 0 6), .int (S 0 7), .ref (g 7)])), (g 1, .inl (cA, 6, .inl (S 1))), (g 2, .inl (cA, 6, .inl (S 2))), (g 3, .inl (cA, 6, .inl (S 3))), (g 4, .inl (cA, 6, .inl (S 4))), (g 5, .inl (cA, 6, .inl (S 5))), (g 6, .inl (cA, 6, .inl (S 6))), (g 7, .inl (cA, 36, .inl (S 7)))] s.heap := hP
  subst hsz
  have hD := hD0.self (sz := s.heap.size)
  generalize hAe : va_A (wCls cA u b o aa a d f g y x P Q S) s.heap.size = A at hD hst ⊢
  have hA : ∀ q : Nat, s.heap.size ≤ q → A q := fun q h => by rw [← hAe]; exact Or.inr h
  have hS : va_S A s.heap s.heap [] := va_S.rf
  have hD : va_D A [(u, .inr (3, [.ref b, .ref o, .ref aa, .int (y 0), .int (y 1)])), (o, .inr (1, [.ref b, .ref a, .int (x 0), .int (x 1), .int (x 2), .int (x 3), .int (x 4), .int (x 5)])), (a, .inr (0, [.ref b, .ref (d 0), .ref (d 1), .ref (d 2), .ref (d 3), .ref (d 4), .ref (d 5), .ref (d 6), .ref (d 7), .ref (d 8), .ref (d 9), .ref (d 10)])), (d 0, .inl (cA, 6, .inl (P 0))), (d 1, .inl (cA, 6, .inl (P 1))), (d 2, .inl (cA, 6, .inl (P 2))), (d 3, .inl (cA, 6, .inl (P 3))), (d 4, .inl (cA, 6, .inl (P 4))), (d 5, .inl (cA, 6, .inl (P 5))), (d 6, .inl (cA, 6, .inl (P 6))), (d 7, .inl (cA, 6, .inl (P 7))), (d 8, .inl (cA, 7, .inl (P 8))), (d 9, .inl (cA, 7, .inl (P 9))), (d 10, .inl (cA, 7, .inl (P 10))), (aa, .inr (0, [.ref b, .ref (f 0), .ref (f 1), .ref (f 2), .ref (f 3), .ref (f 4), .ref (f 5), .ref (f 6), .ref (f 7), .ref (f 8), .ref (f 9), .ref (f 10)])), (f 0, .inl (cA, 6, .inl (Q 0))), (f 1, .inl (cA, 6, .inl (Q 1))), (f 2, .inl (cA, 6, .inl (Q 2))), (f 3, .inl (cA, 6, .inl (Q 3))), (f 4, .inl (cA, 6, .inl (Q 4))), (f 5, .inl (cA, 6, .inl (Q 5))), (f 6, .inl (cA, 6, .inl (Q 6))), (f 7, .inl (cA, 6, .inl (Q 7))), (f 8, .inl (cA, 7, .inl (Q 8))), (f 9, .inl (cA, 7, .inl (Q 9))), (f 10, .inl (cA, 7, .inl (Q 10))), (b, .inr (2, [.int (S 0 0), .ref (g 1), .ref (g 2), .ref (g 3), .ref (g 4), .ref (g 5), .ref (g 6), .int (S 0 1), .int (S 0 2), .int (S 0 3), .int (S 0 4), .int (S 0 5), .int (S 0 6), .int (S 0 7), .ref (g 7)])), (g 1, .inl (cA, 6, .inl (S 1))), (g 2, .inl (cA, 6, .inl (S 2))), (g 3, .inl (cA, 6, .inl (S 3))), (g 4, .inl (cA, 6, .inl (S 4))), (g 5, .inl (cA, 6, .inl (S 5))), (g 6, .inl (cA, 6, .inl (S 6))), (g 7, .inl (cA, 36, .inl (S 7)))] := hD
  have hl := lv_entry ([.ref u, .int v0, .int v1]) (n := 3) (Nat.le_of_ble_eq_true rfl)
  rw [lg_entry_eq]
  generalize (lg_sl ([.ref u, .int v0, .int v1]) ++ List.replicate (3 - (lg_sl ([.ref u, .int v0, .int v1])).length) Slot.unset).toArray = ls at hl ⊢
  have hl : lv_has ls 3 [(0, .ref u), (1, .int v0), (2, .int v1)] := hl
  refine lv_iload_n hx hb d_Ord_tell_0 rfl (lv_at hl 2 rfl) ?_
  refine lv_aload_n hx hb d_Ord_tell_1 rfl (lv_at hl 0 rfl) ?_
  refine va_get (D := D) (ci := 3) (v := .ref b) (C := R_Ord) (T := T_Ord) (N := 5) hx hb hts i_Ord hown hK hP 0 rfl rfl 0 (by decide) (hts _ mb_190) (fun _ h9 => h9) rfl d_Ord_tell_2 ?_
  refine va_get (D := D) (ci := 2) (v := .int (S 0 0)) (C := R_Shop) (T := T_Shop) (N := 15) hx hb hts i_Shop hown hK hP 26 rfl rfl 0 (by decide) (hts _ mb_29) (fun _ h9 => h9) rfl d_Ord_tell_5 ?_
  refine lv_icmp_ne (tgt := 20) hx hb d_Ord_tell_8 (by decide) (fun c_1 => ?_) (fun c_1 => ?_)
  · skip
    have e9 : r_Ord_tell y x P Q S v0 v1 = (3, 0, y, x, P, Q, S) := by
      unfold r_Ord_tell
      refine (if_neg c_1).trans ?_
      rfl
    rw [e9]
    exact hx_throw (k := 3) hx hb htr hown hlocks hex hml hts hY (by try dsimp only; exact hP.sub [0, 1, 2, 3, 4, 5, 6, 7, 8, 9, 10, 11, 12, 13, 14, 15, 16, 17, 18, 19, 20, 21, 22, 23, 24, 25, 26, 27, 28, 29, 30, 31, 32, 33] rfl) (by try dsimp only; exact hD.sub [0, 1, 2, 3, 4, 5, 6, 7, 8, 9, 10, 11, 12, 13, 14, 15, 16, 17, 18, 19, 20, 21, 22, 23, 24, 25, 26, 27, 28, 29, 30, 31, 32, 33] (by decide) rfl) hS hA hst (by decide) hl.1 mb_379 mb_11 (i1 := 180) (text := "not each heat once") (by decide) d_Ord_tell_20 d_Ord_tell_23 d_Ord_tell_24 d_Ord_tell_26 d_Ord_tell_29 ⟨Nat.le_of_ble_eq_true rfl, Nat.le_of_ble_eq_true rfl⟩ ⟨Nat.le_refl _, Nat.le_refl _⟩ ⟨Nat.le_of_ble_eq_true rfl, Nat.le_of_ble_eq_true rfl⟩
  · skip
    have hv : ∃ n : Nat, n ≤ 6 ∧ v1 = nI n := by rw [c_1]; exact hN
    refine lv_aload_n hx hb d_Ord_tell_11 rfl (lv_at hl 0 rfl) ?_
    refine lv_iload_n hx hb d_Ord_tell_12 rfl (lv_at hl 1 rfl) ?_
    refine lv_iload_n hx hb d_Ord_tell_13 rfl (lv_at hl 2 rfl) ?_
    refine hr_callV (C := R_Ord) (T := T_Ord) (N := 5) (As := [.int v0, .int v1]) (rest := []) ⟨hx, hb, hml, hown, hts⟩ (k_Ord_namesEachHeat l D cA cZ cL u b o aa g y S v0 v1 hv) (bv_V 2 hts mb_498 (hts _ mb_1) (hts _ mb_495) (hts _ mb_497) (hts _ mbp_8) (by decide +kernel) ⟨Nat.le_of_ble_eq_true rfl, Nat.le_of_ble_eq_true rfl⟩) hK hZ hP [0, 26, 27, 28, 29, 30, 31, 32, 33] rfl 0 3 rfl rfl rfl hl.1 rfl (lv_room (Nat.le_of_ble_eq_true rfl)) d_Ord_tell_14 ⟨Nat.zero_le _, Nat.zero_le _⟩ ?_
    refine lv_topi (fun f_2 ef_2 => ?_)
    refine lv_if_ne (tgt := 30) hx hb d_Ord_tell_17 (by decide) (fun c_3 => ?_) (fun c_3 => ?_)
    · skip
      refine lv_aload_n hx hb d_Ord_tell_30 rfl (lv_at hl 0 rfl) ?_
      refine va_get (D := D) (ci := 3) (v := .ref o) (C := R_Ord) (T := T_Ord) (N := 5) hx hb hts i_Ord hown hK hP 0 rfl rfl 1 (by decide) (hts _ mb_191) (fun _ h9 => h9) rfl d_Ord_tell_31 ?_
      refine va_get (D := D) (ci := 1) (v := .ref a) (C := R_Srch) (T := T_Srch) (N := 8) hx hb hts i_Srch hown hK hP 1 rfl rfl 1 (by decide) (hts _ mb_160) (fun _ h9 => h9) rfl d_Ord_tell_34 ?_
      refine lv_iload_n hx hb d_Ord_tell_37 rfl (lv_at hl 1 rfl) ?_
      refine lv_iload_n hx hb d_Ord_tell_38 rfl (lv_at hl 2 rfl) ?_
      refine hw_callVi (C := R_Plan) (T := T_Plan) (N := 12) (wr := [(u, .inr (3, [.ref b, .ref o, .ref aa, .int (y 0), .int (y 1)])), (o, .inr (1, [.ref b, .ref a, .int (x 0), .int (x 1), .int (x 2), .int (x 3), .int (x 4), .int (x 5)])), (aa, .inr (0, [.ref b, .ref (f 0), .ref (f 1), .ref (f 2), .ref (f 3), .ref (f 4), .ref (f 5), .ref (f 6), .ref (f 7), .ref (f 8), .ref (f 9), .ref (f 10)])), (f 0, .inl (cA, 6, .inl (Q 0))), (f 1, .inl (cA, 6, .inl (Q 1))), (f 2, .inl (cA, 6, .inl (Q 2))), (f 3, .inl (cA, 6, .inl (Q 3))), (f 4, .inl (cA, 6, .inl (Q 4))), (f 5, .inl (cA, 6, .inl (Q 5))), (f 6, .inl (cA, 6, .inl (Q 6))), (f 7, .inl (cA, 6, .inl (Q 7))), (f 8, .inl (cA, 7, .inl (Q 8))), (f 9, .inl (cA, 7, .inl (Q 9))), (f 10, .inl (cA, 7, .inl (Q 10)))]) (As := [.int v0, .int v1]) (rest := []) ⟨hx, hb, hml, hown, hts⟩ (k_Plan_lay l D cA cZ cL a d b g S P v0 v1 hG hp hN) (bv_V 2 hts mb_453 (hts _ mb_4) (hts _ mb_450) (hts _ mb_451) (hts _ mb_452) (by decide +kernel) ⟨Nat.le_of_ble_eq_true rfl, Nat.le_of_ble_eq_true rfl⟩) hK hZ hP hD hS hA [2, 3, 4, 5, 6, 7, 8, 9, 10, 11, 12, 13, 26, 27, 28, 29, 30, 31, 32, 33] [0, 1, 14, 15, 16, 17, 18, 19, 20, 21, 22, 23, 24, 25] rfl rfl (by decide) (by decide) (by decide) 2 0 rfl rfl rfl hl.1 rfl (lv_room (Nat.le_of_ble_eq_true rfl)) d_Ord_tell_39 ⟨Nat.zero_le _, Nat.zero_le _⟩ (fun H locs hP hD hS => ?_)
      have hP : va_P D cls [(u, .inr (3, [.ref b, .ref o, .ref aa, .int (y 0), .int (y 1)])), (o, .inr (1, [.ref b, .ref a, .int (x 0), .int (x 1), .int (x 2), .int (x 3), .int (x 4), .int (x 5)])), (aa, .inr (0, [.ref b, .ref (f 0), .ref (f 1), .ref (f 2), .ref (f 3), .ref (f 4), .ref (f 5), .ref (f 6), .ref (f 7), .ref (f 8), .ref (f 9), .ref (f 10)])), (f 0, .inl (cA, 6, .inl (Q 0))), (f 1, .inl (cA, 6, .inl (Q 1))), (f 2, .inl (cA, 6, .inl (Q 2))), (f 3, .inl (cA, 6, .inl (Q 3))), (f 4, .inl (cA, 6, .inl (Q 4))), (f 5, .inl (cA, 6, .inl (Q 5))), (f 6, .inl (cA, 6, .inl (Q 6))), (f 7, .inl (cA, 6, .inl (Q 7))), (f 8, .inl (cA, 7, .inl (Q 8))), (f 9, .inl (cA, 7, .inl (Q 9))), (f 10, .inl (cA, 7, .inl (Q 10))), (a, .inr (0, [.ref b, .ref (d 0), .ref (d 1), .ref (d 2), .ref (d 3), .ref (d 4), .ref (d 5), .ref (d 6), .ref (d 7), .ref (d 8), .ref (d 9), .ref (d 10)])), (d 0, .inl (cA, 6, .inl ((r_Plan_lay S P v0 v1).2 0))), (d 1, .inl (cA, 6, .inl ((r_Plan_lay S P v0 v1).2 1))), (d 2, .inl (cA, 6, .inl ((r_Plan_lay S P v0 v1).2 2))), (d 3, .inl (cA, 6, .inl ((r_Plan_lay S P v0 v1).2 3))), (d 4, .inl (cA, 6, .inl ((r_Plan_lay S P v0 v1).2 4))), (d 5, .inl (cA, 6, .inl ((r_Plan_lay S P v0 v1).2 5))), (d 6, .inl (cA, 6, .inl ((r_Plan_lay S P v0 v1).2 6))), (d 7, .inl (cA, 6, .inl ((r_Plan_lay S P v0 v1).2 7))), (d 8, .inl (cA, 7, .inl ((r_Plan_lay S P v0 v1).2 8))), (d 9, .inl (cA, 7, .inl ((r_Plan_lay S P v0 v1).2 9))), (d 10, .inl (cA, 7, .inl ((r_Plan_lay S P v0 v1).2 10))), (b, .inr (2, [.int (S 0 0), .ref (g 1), .ref (g 2), .ref (g 3), .ref (g 4), .ref (g 5), .ref (g 6), .int (S 0 1), .int (S 0 2), .int (S 0 3), .int (S 0 4), .int (S 0 5), .int (S 0 6), .int (S 0 7), .ref (g 7)])), (g 1, .inl (cA, 6, .inl (S 1))), (g 2, .inl (cA, 6, .inl (S 2))), (g 3, .inl (cA, 6, .inl (S 3))), (g 4, .inl (cA, 6, .inl (S 4))), (g 5, .inl (cA, 6, .inl (S 5))), (g 6, .inl (cA, 6, .inl (S 6))), (g 7, .inl (cA, 36, .inl (S 7)))] H := hP
      have hD : va_D A [(u, .inr (3, [.ref b, .ref o, .ref aa, .int (y 0), .int (y 1)])), (o, .inr (1, [.ref b, .ref a, .int (x 0), .int (x 1), .int (x 2), .int (x 3), .int (x 4), .int (x 5)])), (aa, .inr (0, [.ref b, .ref (f 0), .ref (f 1), .ref (f 2), .ref (f 3), .ref (f 4), .ref (f 5), .ref (f 6), .ref (f 7), .ref (f 8), .ref (f 9), .ref (f 10)])), (f 0, .inl (cA, 6, .inl (Q 0))), (f 1, .inl (cA, 6, .inl (Q 1))), (f 2, .inl (cA, 6, .inl (Q 2))), (f 3, .inl (cA, 6, .inl (Q 3))), (f 4, .inl (cA, 6, .inl (Q 4))), (f 5, .inl (cA, 6, .inl (Q 5))), (f 6, .inl (cA, 6, .inl (Q 6))), (f 7, .inl (cA, 6, .inl (Q 7))), (f 8, .inl (cA, 7, .inl (Q 8))), (f 9, .inl (cA, 7, .inl (Q 9))), (f 10, .inl (cA, 7, .inl (Q 10))), (a, .inr (0, [.ref b, .ref (d 0), .ref (d 1), .ref (d 2), .ref (d 3), .ref (d 4), .ref (d 5), .ref (d 6), .ref (d 7), .ref (d 8), .ref (d 9), .ref (d 10)])), (d 0, .inl (cA, 6, .inl ((r_Plan_lay S P v0 v1).2 0))), (d 1, .inl (cA, 6, .inl ((r_Plan_lay S P v0 v1).2 1))), (d 2, .inl (cA, 6, .inl ((r_Plan_lay S P v0 v1).2 2))), (d 3, .inl (cA, 6, .inl ((r_Plan_lay S P v0 v1).2 3))), (d 4, .inl (cA, 6, .inl ((r_Plan_lay S P v0 v1).2 4))), (d 5, .inl (cA, 6, .inl ((r_Plan_lay S P v0 v1).2 5))), (d 6, .inl (cA, 6, .inl ((r_Plan_lay S P v0 v1).2 6))), (d 7, .inl (cA, 6, .inl ((r_Plan_lay S P v0 v1).2 7))), (d 8, .inl (cA, 7, .inl ((r_Plan_lay S P v0 v1).2 8))), (d 9, .inl (cA, 7, .inl ((r_Plan_lay S P v0 v1).2 9))), (d 10, .inl (cA, 7, .inl ((r_Plan_lay S P v0 v1).2 10))), (b, .inr (2, [.int (S 0 0), .ref (g 1), .ref (g 2), .ref (g 3), .ref (g 4), .ref (g 5), .ref (g 6), .int (S 0 1), .int (S 0 2), .int (S 0 3), .int (S 0 4), .int (S 0 5), .int (S 0 6), .int (S 0 7), .ref (g 7)])), (g 1, .inl (cA, 6, .inl (S 1))), (g 2, .inl (cA, 6, .inl (S 2))), (g 3, .inl (cA, 6, .inl (S 3))), (g 4, .inl (cA, 6, .inl (S 4))), (g 5, .inl (cA, 6, .inl (S 5))), (g 6, .inl (cA, 6, .inl (S 6))), (g 7, .inl (cA, 36, .inl (S 7)))] := hD
      refine lv_topi (fun f_4 ef_4 => ?_)
      refine lv_if_ne (tgt := 55) hx hb d_Ord_tell_42 (by decide) (fun c_5 => ?_) (fun c_5 => ?_)
      · skip
        refine lv_aload_n hx hb d_Ord_tell_55 rfl (lv_at hl 0 rfl) ?_
        refine lv_aload_n hx hb d_Ord_tell_56 rfl (lv_at hl 0 rfl) ?_
        refine va_get (D := D) (ci := 3) (v := .ref aa) (C := R_Ord) (T := T_Ord) (N := 5) hx hb hts i_Ord hown hK hP 0 rfl rfl 2 (by decide) (hts _ mb_192) (fun _ h9 => h9) rfl d_Ord_tell_57 ?_
        refine lv_iload_n hx hb d_Ord_tell_60 rfl (lv_at hl 1 rfl) ?_
        refine lv_iload_n hx hb d_Ord_tell_61 rfl (lv_at hl 2 rfl) ?_
        refine hw_callVi (C := R_Plan) (T := T_Plan) (N := 12) (wr := [(u, .inr (3, [.ref b, .ref o, .ref aa, .int (y 0), .int (y 1)])), (o, .inr (1, [.ref b, .ref a, .int (x 0), .int (x 1), .int (x 2), .int (x 3), .int (x 4), .int (x 5)])), (a, .inr (0, [.ref b, .ref (d 0), .ref (d 1), .ref (d 2), .ref (d 3), .ref (d 4), .ref (d 5), .ref (d 6), .ref (d 7), .ref (d 8), .ref (d 9), .ref (d 10)])), (d 0, .inl (cA, 6, .inl ((r_Plan_lay S P v0 v1).2 0))), (d 1, .inl (cA, 6, .inl ((r_Plan_lay S P v0 v1).2 1))), (d 2, .inl (cA, 6, .inl ((r_Plan_lay S P v0 v1).2 2))), (d 3, .inl (cA, 6, .inl ((r_Plan_lay S P v0 v1).2 3))), (d 4, .inl (cA, 6, .inl ((r_Plan_lay S P v0 v1).2 4))), (d 5, .inl (cA, 6, .inl ((r_Plan_lay S P v0 v1).2 5))), (d 6, .inl (cA, 6, .inl ((r_Plan_lay S P v0 v1).2 6))), (d 7, .inl (cA, 6, .inl ((r_Plan_lay S P v0 v1).2 7))), (d 8, .inl (cA, 7, .inl ((r_Plan_lay S P v0 v1).2 8))), (d 9, .inl (cA, 7, .inl ((r_Plan_lay S P v0 v1).2 9))), (d 10, .inl (cA, 7, .inl ((r_Plan_lay S P v0 v1).2 10)))]) (As := [.int v0, .int v1]) (rest := [.ref u]) ⟨hx, hb, hml, hown, hts⟩ (k_Plan_lay l D cA cZ cL aa f b g S Q v0 v1 hG hq hN) (bv_V 2 hts mb_453 (hts _ mb_4) (hts _ mb_450) (hts _ mb_451) (hts _ mb_452) (by decide +kernel) ⟨Nat.le_of_ble_eq_true rfl, Nat.le_of_ble_eq_true rfl⟩) hK hZ hP hD hS hA [2, 3, 4, 5, 6, 7, 8, 9, 10, 11, 12, 13, 26, 27, 28, 29, 30, 31, 32, 33] [0, 1, 14, 15, 16, 17, 18, 19, 20, 21, 22, 23, 24, 25] rfl rfl (by decide) (by decide) (by decide) 2 0 rfl rfl rfl hl.1 rfl (lv_room (Nat.le_of_ble_eq_true rfl)) d_Ord_tell_62 ⟨Nat.zero_le _, Nat.zero_le _⟩ (fun H locs hP hD hS => ?_)
        have hP : va_P D cls [(u, .inr (3, [.ref b, .ref o, .ref aa, .int (y 0), .int (y 1)])), (o, .inr (1, [.ref b, .ref a, .int (x 0), .int (x 1), .int (x 2), .int (x 3), .int (x 4), .int (x 5)])), (a, .inr (0, [.ref b, .ref (d 0), .ref (d 1), .ref (d 2), .ref (d 3), .ref (d 4), .ref (d 5), .ref (d 6), .ref (d 7), .ref (d 8), .ref (d 9), .ref (d 10)])), (d 0, .inl (cA, 6, .inl ((r_Plan_lay S P v0 v1).2 0))), (d 1, .inl (cA, 6, .inl ((r_Plan_lay S P v0 v1).2 1))), (d 2, .inl (cA, 6, .inl ((r_Plan_lay S P v0 v1).2 2))), (d 3, .inl (cA, 6, .inl ((r_Plan_lay S P v0 v1).2 3))), (d 4, .inl (cA, 6, .inl ((r_Plan_lay S P v0 v1).2 4))), (d 5, .inl (cA, 6, .inl ((r_Plan_lay S P v0 v1).2 5))), (d 6, .inl (cA, 6, .inl ((r_Plan_lay S P v0 v1).2 6))), (d 7, .inl (cA, 6, .inl ((r_Plan_lay S P v0 v1).2 7))), (d 8, .inl (cA, 7, .inl ((r_Plan_lay S P v0 v1).2 8))), (d 9, .inl (cA, 7, .inl ((r_Plan_lay S P v0 v1).2 9))), (d 10, .inl (cA, 7, .inl ((r_Plan_lay S P v0 v1).2 10))), (aa, .inr (0, [.ref b, .ref (f 0), .ref (f 1), .ref (f 2), .ref (f 3), .ref (f 4), .ref (f 5), .ref (f 6), .ref (f 7), .ref (f 8), .ref (f 9), .ref (f 10)])), (f 0, .inl (cA, 6, .inl ((r_Plan_lay S Q v0 v1).2 0))), (f 1, .inl (cA, 6, .inl ((r_Plan_lay S Q v0 v1).2 1))), (f 2, .inl (cA, 6, .inl ((r_Plan_lay S Q v0 v1).2 2))), (f 3, .inl (cA, 6, .inl ((r_Plan_lay S Q v0 v1).2 3))), (f 4, .inl (cA, 6, .inl ((r_Plan_lay S Q v0 v1).2 4))), (f 5, .inl (cA, 6, .inl ((r_Plan_lay S Q v0 v1).2 5))), (f 6, .inl (cA, 6, .inl ((r_Plan_lay S Q v0 v1).2 6))), (f 7, .inl (cA, 6, .inl ((r_Plan_lay S Q v0 v1).2 7))), (f 8, .inl (cA, 7, .inl ((r_Plan_lay S Q v0 v1).2 8))), (f 9, .inl (cA, 7, .inl ((r_Plan_lay S Q v0 v1).2 9))), (f 10, .inl (cA, 7, .inl ((r_Plan_lay S Q v0 v1).2 10))), (b, .inr (2, [.int (S 0 0), .ref (g 1), .ref (g 2), .ref (g 3), .ref (g 4), .ref (g 5), .ref (g 6), .int (S 0 1), .int (S 0 2), .int (S 0 3), .int (S 0 4), .int (S 0 5), .int (S 0 6), .int (S 0 7), .ref (g 7)])), (g 1, .inl (cA, 6, .inl (S 1))), (g 2, .inl (cA, 6, .inl (S 2))), (g 3, .inl (cA, 6, .inl (S 3))), (g 4, .inl (cA, 6, .inl (S 4))), (g 5, .inl (cA, 6, .inl (S 5))), (g 6, .inl (cA, 6, .inl (S 6))), (g 7, .inl (cA, 36, .inl (S 7)))] H := hP
        have hD : va_D A [(u, .inr (3, [.ref b, .ref o, .ref aa, .int (y 0), .int (y 1)])), (o, .inr (1, [.ref b, .ref a, .int (x 0), .int (x 1), .int (x 2), .int (x 3), .int (x 4), .int (x 5)])), (a, .inr (0, [.ref b, .ref (d 0), .ref (d 1), .ref (d 2), .ref (d 3), .ref (d 4), .ref (d 5), .ref (d 6), .ref (d 7), .ref (d 8), .ref (d 9), .ref (d 10)])), (d 0, .inl (cA, 6, .inl ((r_Plan_lay S P v0 v1).2 0))), (d 1, .inl (cA, 6, .inl ((r_Plan_lay S P v0 v1).2 1))), (d 2, .inl (cA, 6, .inl ((r_Plan_lay S P v0 v1).2 2))), (d 3, .inl (cA, 6, .inl ((r_Plan_lay S P v0 v1).2 3))), (d 4, .inl (cA, 6, .inl ((r_Plan_lay S P v0 v1).2 4))), (d 5, .inl (cA, 6, .inl ((r_Plan_lay S P v0 v1).2 5))), (d 6, .inl (cA, 6, .inl ((r_Plan_lay S P v0 v1).2 6))), (d 7, .inl (cA, 6, .inl ((r_Plan_lay S P v0 v1).2 7))), (d 8, .inl (cA, 7, .inl ((r_Plan_lay S P v0 v1).2 8))), (d 9, .inl (cA, 7, .inl ((r_Plan_lay S P v0 v1).2 9))), (d 10, .inl (cA, 7, .inl ((r_Plan_lay S P v0 v1).2 10))), (aa, .inr (0, [.ref b, .ref (f 0), .ref (f 1), .ref (f 2), .ref (f 3), .ref (f 4), .ref (f 5), .ref (f 6), .ref (f 7), .ref (f 8), .ref (f 9), .ref (f 10)])), (f 0, .inl (cA, 6, .inl ((r_Plan_lay S Q v0 v1).2 0))), (f 1, .inl (cA, 6, .inl ((r_Plan_lay S Q v0 v1).2 1))), (f 2, .inl (cA, 6, .inl ((r_Plan_lay S Q v0 v1).2 2))), (f 3, .inl (cA, 6, .inl ((r_Plan_lay S Q v0 v1).2 3))), (f 4, .inl (cA, 6, .inl ((r_Plan_lay S Q v0 v1).2 4))), (f 5, .inl (cA, 6, .inl ((r_Plan_lay S Q v0 v1).2 5))), (f 6, .inl (cA, 6, .inl ((r_Plan_lay S Q v0 v1).2 6))), (f 7, .inl (cA, 6, .inl ((r_Plan_lay S Q v0 v1).2 7))), (f 8, .inl (cA, 7, .inl ((r_Plan_lay S Q v0 v1).2 8))), (f 9, .inl (cA, 7, .inl ((r_Plan_lay S Q v0 v1).2 9))), (f 10, .inl (cA, 7, .inl ((r_Plan_lay S Q v0 v1).2 10))), (b, .inr (2, [.int (S 0 0), .ref (g 1), .ref (g 2), .ref (g 3), .ref (g 4), .ref (g 5), .ref (g 6), .int (S 0 1), .int (S 0 2), .int (S 0 3), .int (S 0 4), .int (S 0 5), .int (S 0 6), .int (S 0 7), .ref (g 7)])), (g 1, .inl (cA, 6, .inl (S 1))), (g 2, .inl (cA, 6, .inl (S 2))), (g 3, .inl (cA, 6, .inl (S 3))), (g 4, .inl (cA, 6, .inl (S 4))), (g 5, .inl (cA, 6, .inl (S 5))), (g 6, .inl (cA, 6, .inl (S 6))), (g 7, .inl (cA, 36, .inl (S 7)))] := hD
        refine lv_topi (fun f_6 ef_6 => ?_)
        refine va_put (D := D) (ci := 3) (v := .int f_6) (ty := .boolean) (C := R_Ord) (T := T_Ord) (N := 5) hx hb hts i_Ord t_Ord t_Ord_ok n_Ord hown hK hP hD hS 0 rfl rfl 3 (by decide) (hts _ mb_193) (fun _ h9 => h9) rfl (by decide +kernel) (bool_nar (by rw [ef_6]; exact lay_01 _ _ _)) (bool_fit (by rw [ef_6]; exact lay_01 _ _ _)) (Nat.le_of_ble_eq_true rfl) d_Ord_tell_65 (fun H locs hP hD hS => ?_)
        have hP : va_P D cls [(u, .inr (3, [.ref b, .ref o, .ref aa, .int f_6, .int (y 1)])), (o, .inr (1, [.ref b, .ref a, .int (x 0), .int (x 1), .int (x 2), .int (x 3), .int (x 4), .int (x 5)])), (a, .inr (0, [.ref b, .ref (d 0), .ref (d 1), .ref (d 2), .ref (d 3), .ref (d 4), .ref (d 5), .ref (d 6), .ref (d 7), .ref (d 8), .ref (d 9), .ref (d 10)])), (d 0, .inl (cA, 6, .inl ((r_Plan_lay S P v0 v1).2 0))), (d 1, .inl (cA, 6, .inl ((r_Plan_lay S P v0 v1).2 1))), (d 2, .inl (cA, 6, .inl ((r_Plan_lay S P v0 v1).2 2))), (d 3, .inl (cA, 6, .inl ((r_Plan_lay S P v0 v1).2 3))), (d 4, .inl (cA, 6, .inl ((r_Plan_lay S P v0 v1).2 4))), (d 5, .inl (cA, 6, .inl ((r_Plan_lay S P v0 v1).2 5))), (d 6, .inl (cA, 6, .inl ((r_Plan_lay S P v0 v1).2 6))), (d 7, .inl (cA, 6, .inl ((r_Plan_lay S P v0 v1).2 7))), (d 8, .inl (cA, 7, .inl ((r_Plan_lay S P v0 v1).2 8))), (d 9, .inl (cA, 7, .inl ((r_Plan_lay S P v0 v1).2 9))), (d 10, .inl (cA, 7, .inl ((r_Plan_lay S P v0 v1).2 10))), (aa, .inr (0, [.ref b, .ref (f 0), .ref (f 1), .ref (f 2), .ref (f 3), .ref (f 4), .ref (f 5), .ref (f 6), .ref (f 7), .ref (f 8), .ref (f 9), .ref (f 10)])), (f 0, .inl (cA, 6, .inl ((r_Plan_lay S Q v0 v1).2 0))), (f 1, .inl (cA, 6, .inl ((r_Plan_lay S Q v0 v1).2 1))), (f 2, .inl (cA, 6, .inl ((r_Plan_lay S Q v0 v1).2 2))), (f 3, .inl (cA, 6, .inl ((r_Plan_lay S Q v0 v1).2 3))), (f 4, .inl (cA, 6, .inl ((r_Plan_lay S Q v0 v1).2 4))), (f 5, .inl (cA, 6, .inl ((r_Plan_lay S Q v0 v1).2 5))), (f 6, .inl (cA, 6, .inl ((r_Plan_lay S Q v0 v1).2 6))), (f 7, .inl (cA, 6, .inl ((r_Plan_lay S Q v0 v1).2 7))), (f 8, .inl (cA, 7, .inl ((r_Plan_lay S Q v0 v1).2 8))), (f 9, .inl (cA, 7, .inl ((r_Plan_lay S Q v0 v1).2 9))), (f 10, .inl (cA, 7, .inl ((r_Plan_lay S Q v0 v1).2 10))), (b, .inr (2, [.int (S 0 0), .ref (g 1), .ref (g 2), .ref (g 3), .ref (g 4), .ref (g 5), .ref (g 6), .int (S 0 1), .int (S 0 2), .int (S 0 3), .int (S 0 4), .int (S 0 5), .int (S 0 6), .int (S 0 7), .ref (g 7)])), (g 1, .inl (cA, 6, .inl (S 1))), (g 2, .inl (cA, 6, .inl (S 2))), (g 3, .inl (cA, 6, .inl (S 3))), (g 4, .inl (cA, 6, .inl (S 4))), (g 5, .inl (cA, 6, .inl (S 5))), (g 6, .inl (cA, 6, .inl (S 6))), (g 7, .inl (cA, 36, .inl (S 7)))] H := hP
        have hD : va_D A [(u, .inr (3, [.ref b, .ref o, .ref aa, .int f_6, .int (y 1)])), (o, .inr (1, [.ref b, .ref a, .int (x 0), .int (x 1), .int (x 2), .int (x 3), .int (x 4), .int (x 5)])), (a, .inr (0, [.ref b, .ref (d 0), .ref (d 1), .ref (d 2), .ref (d 3), .ref (d 4), .ref (d 5), .ref (d 6), .ref (d 7), .ref (d 8), .ref (d 9), .ref (d 10)])), (d 0, .inl (cA, 6, .inl ((r_Plan_lay S P v0 v1).2 0))), (d 1, .inl (cA, 6, .inl ((r_Plan_lay S P v0 v1).2 1))), (d 2, .inl (cA, 6, .inl ((r_Plan_lay S P v0 v1).2 2))), (d 3, .inl (cA, 6, .inl ((r_Plan_lay S P v0 v1).2 3))), (d 4, .inl (cA, 6, .inl ((r_Plan_lay S P v0 v1).2 4))), (d 5, .inl (cA, 6, .inl ((r_Plan_lay S P v0 v1).2 5))), (d 6, .inl (cA, 6, .inl ((r_Plan_lay S P v0 v1).2 6))), (d 7, .inl (cA, 6, .inl ((r_Plan_lay S P v0 v1).2 7))), (d 8, .inl (cA, 7, .inl ((r_Plan_lay S P v0 v1).2 8))), (d 9, .inl (cA, 7, .inl ((r_Plan_lay S P v0 v1).2 9))), (d 10, .inl (cA, 7, .inl ((r_Plan_lay S P v0 v1).2 10))), (aa, .inr (0, [.ref b, .ref (f 0), .ref (f 1), .ref (f 2), .ref (f 3), .ref (f 4), .ref (f 5), .ref (f 6), .ref (f 7), .ref (f 8), .ref (f 9), .ref (f 10)])), (f 0, .inl (cA, 6, .inl ((r_Plan_lay S Q v0 v1).2 0))), (f 1, .inl (cA, 6, .inl ((r_Plan_lay S Q v0 v1).2 1))), (f 2, .inl (cA, 6, .inl ((r_Plan_lay S Q v0 v1).2 2))), (f 3, .inl (cA, 6, .inl ((r_Plan_lay S Q v0 v1).2 3))), (f 4, .inl (cA, 6, .inl ((r_Plan_lay S Q v0 v1).2 4))), (f 5, .inl (cA, 6, .inl ((r_Plan_lay S Q v0 v1).2 5))), (f 6, .inl (cA, 6, .inl ((r_Plan_lay S Q v0 v1).2 6))), (f 7, .inl (cA, 6, .inl ((r_Plan_lay S Q v0 v1).2 7))), (f 8, .inl (cA, 7, .inl ((r_Plan_lay S Q v0 v1).2 8))), (f 9, .inl (cA, 7, .inl ((r_Plan_lay S Q v0 v1).2 9))), (f 10, .inl (cA, 7, .inl ((r_Plan_lay S Q v0 v1).2 10))), (b, .inr (2, [.int (S 0 0), .ref (g 1), .ref (g 2), .ref (g 3), .ref (g 4), .ref (g 5), .ref (g 6), .int (S 0 1), .int (S 0 2), .int (S 0 3), .int (S 0 4), .int (S 0 5), .int (S 0 6), .int (S 0 7), .ref (g 7)])), (g 1, .inl (cA, 6, .inl (S 1))), (g 2, .inl (cA, 6, .inl (S 2))), (g 3, .inl (cA, 6, .inl (S 3))), (g 4, .inl (cA, 6, .inl (S 4))), (g 5, .inl (cA, 6, .inl (S 5))), (g 6, .inl (cA, 6, .inl (S 6))), (g 7, .inl (cA, 36, .inl (S 7)))] := hD
        refine lv_aload_n hx hb d_Ord_tell_68 rfl (lv_at hl 0 rfl) ?_
        refine va_get (D := D) (ci := 3) (v := .ref aa) (C := R_Ord) (T := T_Ord) (N := 5) hx hb hts i_Ord hown hK hP 0 rfl rfl 2 (by decide) (hts _ mb_192) (fun _ h9 => h9) rfl d_Ord_tell_69 ?_
        refine lv_iload_n hx hb d_Ord_tell_72 rfl (lv_at hl 2 rfl) ?_
        refine hr_callV (C := R_Plan) (T := T_Plan) (N := 12) (As := [.int v1]) (rest := []) ⟨hx, hb, hml, hown, hts⟩ (k_Plan_costOf l D cA cZ cL aa f b g S ((r_Plan_lay S Q v0 v1).2) v1 (in7_N hv)) (bv_V 1 hts mb_442 (hts _ mb_4) (hts _ mb_461) (hts _ mb_440) (hts _ mb_441) (by decide +kernel) ⟨Nat.le_of_ble_eq_true rfl, Nat.le_of_ble_eq_true rfl⟩) hK hZ hP [14, 15, 16, 17, 18, 19, 20, 21, 22, 23, 24, 25, 26, 27, 28, 29, 30, 31, 32, 33] rfl 14 0 rfl rfl rfl hl.1 rfl (lv_room (Nat.le_of_ble_eq_true rfl)) d_Ord_tell_73 ⟨Nat.zero_le _, Nat.zero_le _⟩ ?_
        refine lv_topi (fun f_7 ef_7 => ?_)
        have e9 : r_Ord_tell y x P Q S v0 v1 = (0, f_7, (tv [f_6, y 1]), x, (r_Plan_lay S P v0 v1).2, (r_Plan_lay S Q v0 v1).2, S) := by
          unfold r_Ord_tell
          refine (if_pos c_1).trans ?_
          refine lt_eq ef_2 ?_
          refine (if_neg c_3).trans ?_
          refine lt_eq ef_4 ?_
          refine (if_neg c_5).trans ?_
          refine lt_eq ef_6 ?_
          refine lt_eq ef_7 ?_
          rfl
        exact hx_ret (by rw [e9]) (Nat.zero_le _) (Nat.zero_le _) (W.iret (v := f_7) hx hb hr (fun t ht hW => ⟨(by rw [e9]), ⟨(by rw [e9, ht]; try dsimp only; exact hP.sub [0, 1, 2, 3, 4, 5, 6, 7, 8, 9, 10, 11, 12, 13, 14, 15, 16, 17, 18, 19, 20, 21, 22, 23, 24, 25, 26, 27, 28, 29, 30, 31, 32, 33] rfl), (by rw [e9]; try dsimp only; exact hD.sub [0, 1, 2, 3, 4, 5, 6, 7, 8, 9, 10, 11, 12, 13, 14, 15, 16, 17, 18, 19, 20, 21, 22, 23, 24, 25, 26, 27, 28, 29, 30, 31, 32, 33] (by decide) rfl)⟩, hS.F ht⟩) hS.2.2 d_Ord_tell_76)
      · skip
        have e9 : r_Ord_tell y x P Q S v0 v1 = (4, 0, y, x, (r_Plan_lay S P v0 v1).2, Q, S) := by
          unfold r_Ord_tell
          refine (if_pos c_1).trans ?_
          refine lt_eq ef_2 ?_
          refine (if_neg c_3).trans ?_
          refine lt_eq ef_4 ?_
          refine (if_pos c_5).trans ?_
          rfl
        rw [e9]
        exact hx_throw (k := 4) hx hb htr hown hlocks hex hml hts hY (by try dsimp only; exact hP.sub [0, 1, 14, 15, 16, 17, 18, 19, 20, 21, 22, 23, 24, 25, 2, 3, 4, 5, 6, 7, 8, 9, 10, 11, 12, 13, 26, 27, 28, 29, 30, 31, 32, 33] rfl) (by try dsimp only; exact hD.sub [0, 1, 14, 15, 16, 17, 18, 19, 20, 21, 22, 23, 24, 25, 2, 3, 4, 5, 6, 7, 8, 9, 10, 11, 12, 13, 26, 27, 28, 29, 30, 31, 32, 33] (by decide) rfl) hS hA hst (by decide) hl.1 mb_501 mb_13 (i1 := 187) (text := "a caster may not cast it, or it is not good") (by decide) d_Ord_tell_45 d_Ord_tell_48 d_Ord_tell_49 d_Ord_tell_51 d_Ord_tell_54 ⟨Nat.le_of_ble_eq_true rfl, Nat.le_of_ble_eq_true rfl⟩ ⟨Nat.le_refl _, Nat.le_refl _⟩ ⟨Nat.le_of_ble_eq_true rfl, Nat.le_of_ble_eq_true rfl⟩
    · skip
      have e9 : r_Ord_tell y x P Q S v0 v1 = (3, 0, y, x, P, Q, S) := by
        unfold r_Ord_tell
        refine (if_pos c_1).trans ?_
        refine lt_eq ef_2 ?_
        refine (if_pos c_3).trans ?_
        rfl
      rw [e9]
      exact hx_throw (k := 3) hx hb htr hown hlocks hex hml hts hY (by try dsimp only; exact hP.sub [0, 1, 2, 3, 4, 5, 6, 7, 8, 9, 10, 11, 12, 13, 14, 15, 16, 17, 18, 19, 20, 21, 22, 23, 24, 25, 26, 27, 28, 29, 30, 31, 32, 33] rfl) (by try dsimp only; exact hD.sub [0, 1, 2, 3, 4, 5, 6, 7, 8, 9, 10, 11, 12, 13, 14, 15, 16, 17, 18, 19, 20, 21, 22, 23, 24, 25, 26, 27, 28, 29, 30, 31, 32, 33] (by decide) rfl) hS hA hst (by decide) hl.1 mb_379 mb_11 (i1 := 180) (text := "not each heat once") (by decide) d_Ord_tell_20 d_Ord_tell_23 d_Ord_tell_24 d_Ord_tell_26 d_Ord_tell_29 ⟨Nat.le_of_ble_eq_true rfl, Nat.le_of_ble_eq_true rfl⟩ ⟨Nat.le_refl _, Nat.le_refl _⟩ ⟨Nat.le_of_ble_eq_true rfl, Nat.le_of_ble_eq_true rfl⟩
