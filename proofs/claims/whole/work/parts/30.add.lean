/-! the shop's add -/
theorem in_N6 {N : Int32} (hN : ∃ n : Nat, n ≤ 6 ∧ N = nI n) (h : N < 6) : vp_in N 6 := by
  obtain ⟨n, hn, rfl⟩ := hN
  refine vp_in_nI ?_ (by decide)
  rw [Int32.lt_iff_toInt_lt, nI_toInt (by omega)] at h
  have e6 : (6 : Int32).toInt = 6 := by decide
  omega
def r_Shop_add (S : Nat → Nat → Int32) (g w r k q h : Int32) : Int32 × (Nat → Nat → Int32) := if S 0 0 < 6 then (lt ((S 0 0) + 1) fun (f_2 : Int32) => lt (f_2 - 1) fun (f_3 : Int32) => (f_3, (tb [(tv [f_2, S 0 1, S 0 2, S 0 3, S 0 4, S 0 5, S 0 6, S 0 7]), upd (S 1) (S 0 0).toNatClampNeg g, upd (S 2) (S 0 0).toNatClampNeg w, upd (S 3) (S 0 0).toNatClampNeg r, upd (S 4) (S 0 0).toNatClampNeg k, upd (S 5) (S 0 0).toNatClampNeg q, upd (S 6) (S 0 0).toNatClampNeg h, S 7]))) else (((-1), S))
set_option maxHeartbeats 4000000 in
set_option maxRecDepth 100000 in
theorem k_Shop_add (l : Launch) (D : va_G) (cA cZ cL : ClassId) (a : Nat) (d : Nat → Nat) (S : Nat → Nat → Int32) (g w r k q h : Int32) (hN : ∃ n : Nat, n ≤ 6 ∧ S 0 0 = nI n) : MetI l y_Shop_add (Cond.code y_Shop_add c_Shop_add 7 (some .int) :: base) ({ frames := 0, cells := 0, slots := 0, locals := 0 } : Room) D cls (tys3 cA cZ cL) ([.ref a, .int g, .int w, .int r, .int k, .int q, .int h]) (wShop cA a d S) (r_Shop_add S g w r k q h).1 (wShop cA a d (r_Shop_add S g w r k q h).2) := by
  intro sz
  refine Met.ofW (cc := c_Shop_add) (maxL := 7) (ret := (some .int)) (by decide) rfl ?_
  intro p e s m args below meth c s₁ B hml hv
  obtain ⟨rfl, hsz, hP, hK, hZ, hD0⟩ := hv
  have hx := B.exec
  have hb := B.bytes
  have hr := B.returns
  have hts0 := atoms_spec (ws := (Cond.code y_Shop_add c_Shop_add 7 (some .int) :: base)) B.pre
  have hts : ∀ w ∈ base, w.before _ s = true := fun w h => hts0 w (List.mem_cons_of_mem _ h)
  have hown : s.vm.findClass R_Shop = some m.cls := findClass_of_methodNamed B.named
  have hlocks := B.notSynchronized
  have hP : va_P D cls [(a, .inr (2, [.int (S 0 0), .ref (d 1), .ref (d 2), .ref (d 3), .ref (d 4), .ref (d 5), .ref (d 6), .int (S 0 1), .int (S 0 2), .int (S 0 3), .int (S 0 4), .int (S 0 5), .int (S 0 6), .int (S 0 7), .ref (d 7)])), (d 1, .inl (cA, 6, .inl (S 1))), (d 2, .inl (cA, 6, .inl (S 2))), (d 3, .inl (cA, 6, .inl (S 3))), (d 4, .inl (cA, 6, .inl (S 4))), (d 5, .inl (cA, 6, .inl (S 5))), (d 6, .inl (cA, 6, .inl (S 6))), (d 7, .inl (cA, 36, .inl (S 7)))] s.heap := hP
  subst hsz
  have hD := hD0.self (sz := s.heap.size)
  generalize hAe : va_A (wShop cA a d S) s.heap.size = A at hD ⊢
  have hA : ∀ q : Nat, s.heap.size ≤ q → A q := fun q h => by rw [← hAe]; exact Or.inr h
  have hS : va_S A s.heap s.heap [] := va_S.rf
  have hD : va_D A [(a, .inr (2, [.int (S 0 0), .ref (d 1), .ref (d 2), .ref (d 3), .ref (d 4), .ref (d 5), .ref (d 6), .int (S 0 1), .int (S 0 2), .int (S 0 3), .int (S 0 4), .int (S 0 5), .int (S 0 6), .int (S 0 7), .ref (d 7)])), (d 1, .inl (cA, 6, .inl (S 1))), (d 2, .inl (cA, 6, .inl (S 2))), (d 3, .inl (cA, 6, .inl (S 3))), (d 4, .inl (cA, 6, .inl (S 4))), (d 5, .inl (cA, 6, .inl (S 5))), (d 6, .inl (cA, 6, .inl (S 6))), (d 7, .inl (cA, 36, .inl (S 7)))] := hD
  have hl := lv_entry ([.ref a, .int g, .int w, .int r, .int k, .int q, .int h]) (n := 7) (Nat.le_of_ble_eq_true rfl)
  rw [lg_entry_eq]
  generalize (lg_sl ([.ref a, .int g, .int w, .int r, .int k, .int q, .int h]) ++ List.replicate (7 - (lg_sl ([.ref a, .int g, .int w, .int r, .int k, .int q, .int h])).length) Slot.unset).toArray = ls at hl ⊢
  have hl : lv_has ls 7 [(0, .ref a), (1, .int g), (2, .int w), (3, .int r), (4, .int k), (5, .int q), (6, .int h)] := hl
  refine lv_aload_n hx hb d_Shop_add_0 rfl (lv_at hl 0 rfl) ?_
  refine va_get (D := D) (ci := 2) (v := .int (S 0 0)) (C := R_Shop) (T := T_Shop) (N := 15) hx hb hts i_Shop hown hK hP 0 rfl rfl 0 (by decide) (hts _ mb_28) (fun _ h9 => h9) rfl d_Shop_add_1 ?_
  refine lv_bipush (v := 6) hx hb d_Shop_add_4 (by decide) ?_
  refine lv_icmp_lt (tgt := 11) hx hb d_Shop_add_6 (by decide) (fun c_1 => ?_) (fun c_1 => ?_)
  · skip
    have hi6 : vp_in (S 0 0) 6 := in_N6 hN c_1
    refine lv_aload_n hx hb d_Shop_add_11 rfl (lv_at hl 0 rfl) ?_
    refine va_get (D := D) (ci := 2) (v := .ref (d 1)) (C := R_Shop) (T := T_Shop) (N := 15) hx hb hts i_Shop hown hK hP 0 rfl rfl 1 (by decide) (hts _ mb_32) (fun _ h9 => h9) rfl d_Shop_add_12 ?_
    refine lv_aload_n hx hb d_Shop_add_15 rfl (lv_at hl 0 rfl) ?_
    refine va_get (D := D) (ci := 2) (v := .int (S 0 0)) (C := R_Shop) (T := T_Shop) (N := 15) hx hb hts i_Shop hown hK hP 0 rfl rfl 0 (by decide) (hts _ mb_28) (fun _ h9 => h9) rfl d_Shop_add_16 ?_
    refine lv_iload_n hx hb d_Shop_add_19 rfl (lv_at hl 1 rfl) ?_
    refine va_iast hx hb hK hP hD hS 1 0 rfl rfl hi6 d_Shop_add_20 (fun H locs hP hD hS => ?_)
    have hP : va_P D cls [(a, .inr (2, [.int (S 0 0), .ref (d 1), .ref (d 2), .ref (d 3), .ref (d 4), .ref (d 5), .ref (d 6), .int (S 0 1), .int (S 0 2), .int (S 0 3), .int (S 0 4), .int (S 0 5), .int (S 0 6), .int (S 0 7), .ref (d 7)])), (d 1, .inl (cA, 6, .inl (upd (S 1) (S 0 0).toNatClampNeg g))), (d 2, .inl (cA, 6, .inl (S 2))), (d 3, .inl (cA, 6, .inl (S 3))), (d 4, .inl (cA, 6, .inl (S 4))), (d 5, .inl (cA, 6, .inl (S 5))), (d 6, .inl (cA, 6, .inl (S 6))), (d 7, .inl (cA, 36, .inl (S 7)))] H := hP
    have hD : va_D A [(a, .inr (2, [.int (S 0 0), .ref (d 1), .ref (d 2), .ref (d 3), .ref (d 4), .ref (d 5), .ref (d 6), .int (S 0 1), .int (S 0 2), .int (S 0 3), .int (S 0 4), .int (S 0 5), .int (S 0 6), .int (S 0 7), .ref (d 7)])), (d 1, .inl (cA, 6, .inl (upd (S 1) (S 0 0).toNatClampNeg g))), (d 2, .inl (cA, 6, .inl (S 2))), (d 3, .inl (cA, 6, .inl (S 3))), (d 4, .inl (cA, 6, .inl (S 4))), (d 5, .inl (cA, 6, .inl (S 5))), (d 6, .inl (cA, 6, .inl (S 6))), (d 7, .inl (cA, 36, .inl (S 7)))] := hD
    refine lv_aload_n hx hb d_Shop_add_21 rfl (lv_at hl 0 rfl) ?_
    refine va_get (D := D) (ci := 2) (v := .ref (d 2)) (C := R_Shop) (T := T_Shop) (N := 15) hx hb hts i_Shop hown hK hP 0 rfl rfl 2 (by decide) (hts _ mb_33) (fun _ h9 => h9) rfl d_Shop_add_22 ?_
    refine lv_aload_n hx hb d_Shop_add_25 rfl (lv_at hl 0 rfl) ?_
    refine va_get (D := D) (ci := 2) (v := .int (S 0 0)) (C := R_Shop) (T := T_Shop) (N := 15) hx hb hts i_Shop hown hK hP 0 rfl rfl 0 (by decide) (hts _ mb_28) (fun _ h9 => h9) rfl d_Shop_add_26 ?_
    refine lv_iload_n hx hb d_Shop_add_29 rfl (lv_at hl 2 rfl) ?_
    refine va_iast hx hb hK hP hD hS 2 0 rfl rfl hi6 d_Shop_add_30 (fun H locs hP hD hS => ?_)
    have hP : va_P D cls [(a, .inr (2, [.int (S 0 0), .ref (d 1), .ref (d 2), .ref (d 3), .ref (d 4), .ref (d 5), .ref (d 6), .int (S 0 1), .int (S 0 2), .int (S 0 3), .int (S 0 4), .int (S 0 5), .int (S 0 6), .int (S 0 7), .ref (d 7)])), (d 1, .inl (cA, 6, .inl (upd (S 1) (S 0 0).toNatClampNeg g))), (d 2, .inl (cA, 6, .inl (upd (S 2) (S 0 0).toNatClampNeg w))), (d 3, .inl (cA, 6, .inl (S 3))), (d 4, .inl (cA, 6, .inl (S 4))), (d 5, .inl (cA, 6, .inl (S 5))), (d 6, .inl (cA, 6, .inl (S 6))), (d 7, .inl (cA, 36, .inl (S 7)))] H := hP
    have hD : va_D A [(a, .inr (2, [.int (S 0 0), .ref (d 1), .ref (d 2), .ref (d 3), .ref (d 4), .ref (d 5), .ref (d 6), .int (S 0 1), .int (S 0 2), .int (S 0 3), .int (S 0 4), .int (S 0 5), .int (S 0 6), .int (S 0 7), .ref (d 7)])), (d 1, .inl (cA, 6, .inl (upd (S 1) (S 0 0).toNatClampNeg g))), (d 2, .inl (cA, 6, .inl (upd (S 2) (S 0 0).toNatClampNeg w))), (d 3, .inl (cA, 6, .inl (S 3))), (d 4, .inl (cA, 6, .inl (S 4))), (d 5, .inl (cA, 6, .inl (S 5))), (d 6, .inl (cA, 6, .inl (S 6))), (d 7, .inl (cA, 36, .inl (S 7)))] := hD
    refine lv_aload_n hx hb d_Shop_add_31 rfl (lv_at hl 0 rfl) ?_
    refine va_get (D := D) (ci := 2) (v := .ref (d 3)) (C := R_Shop) (T := T_Shop) (N := 15) hx hb hts i_Shop hown hK hP 0 rfl rfl 3 (by decide) (hts _ mb_35) (fun _ h9 => h9) rfl d_Shop_add_32 ?_
    refine lv_aload_n hx hb d_Shop_add_35 rfl (lv_at hl 0 rfl) ?_
    refine va_get (D := D) (ci := 2) (v := .int (S 0 0)) (C := R_Shop) (T := T_Shop) (N := 15) hx hb hts i_Shop hown hK hP 0 rfl rfl 0 (by decide) (hts _ mb_28) (fun _ h9 => h9) rfl d_Shop_add_36 ?_
    refine lv_iload_n hx hb d_Shop_add_39 rfl (lv_at hl 3 rfl) ?_
    refine va_iast hx hb hK hP hD hS 3 0 rfl rfl hi6 d_Shop_add_40 (fun H locs hP hD hS => ?_)
    have hP : va_P D cls [(a, .inr (2, [.int (S 0 0), .ref (d 1), .ref (d 2), .ref (d 3), .ref (d 4), .ref (d 5), .ref (d 6), .int (S 0 1), .int (S 0 2), .int (S 0 3), .int (S 0 4), .int (S 0 5), .int (S 0 6), .int (S 0 7), .ref (d 7)])), (d 1, .inl (cA, 6, .inl (upd (S 1) (S 0 0).toNatClampNeg g))), (d 2, .inl (cA, 6, .inl (upd (S 2) (S 0 0).toNatClampNeg w))), (d 3, .inl (cA, 6, .inl (upd (S 3) (S 0 0).toNatClampNeg r))), (d 4, .inl (cA, 6, .inl (S 4))), (d 5, .inl (cA, 6, .inl (S 5))), (d 6, .inl (cA, 6, .inl (S 6))), (d 7, .inl (cA, 36, .inl (S 7)))] H := hP
    have hD : va_D A [(a, .inr (2, [.int (S 0 0), .ref (d 1), .ref (d 2), .ref (d 3), .ref (d 4), .ref (d 5), .ref (d 6), .int (S 0 1), .int (S 0 2), .int (S 0 3), .int (S 0 4), .int (S 0 5), .int (S 0 6), .int (S 0 7), .ref (d 7)])), (d 1, .inl (cA, 6, .inl (upd (S 1) (S 0 0).toNatClampNeg g))), (d 2, .inl (cA, 6, .inl (upd (S 2) (S 0 0).toNatClampNeg w))), (d 3, .inl (cA, 6, .inl (upd (S 3) (S 0 0).toNatClampNeg r))), (d 4, .inl (cA, 6, .inl (S 4))), (d 5, .inl (cA, 6, .inl (S 5))), (d 6, .inl (cA, 6, .inl (S 6))), (d 7, .inl (cA, 36, .inl (S 7)))] := hD
    refine lv_aload_n hx hb d_Shop_add_41 rfl (lv_at hl 0 rfl) ?_
    refine va_get (D := D) (ci := 2) (v := .ref (d 4)) (C := R_Shop) (T := T_Shop) (N := 15) hx hb hts i_Shop hown hK hP 0 rfl rfl 4 (by decide) (hts _ mb_38) (fun _ h9 => h9) rfl d_Shop_add_42 ?_
    refine lv_aload_n hx hb d_Shop_add_45 rfl (lv_at hl 0 rfl) ?_
    refine va_get (D := D) (ci := 2) (v := .int (S 0 0)) (C := R_Shop) (T := T_Shop) (N := 15) hx hb hts i_Shop hown hK hP 0 rfl rfl 0 (by decide) (hts _ mb_28) (fun _ h9 => h9) rfl d_Shop_add_46 ?_
    refine lv_iload hx hb d_Shop_add_49 (lv_at hl 4 rfl) ?_
    refine va_iast hx hb hK hP hD hS 4 0 rfl rfl hi6 d_Shop_add_51 (fun H locs hP hD hS => ?_)
    have hP : va_P D cls [(a, .inr (2, [.int (S 0 0), .ref (d 1), .ref (d 2), .ref (d 3), .ref (d 4), .ref (d 5), .ref (d 6), .int (S 0 1), .int (S 0 2), .int (S 0 3), .int (S 0 4), .int (S 0 5), .int (S 0 6), .int (S 0 7), .ref (d 7)])), (d 1, .inl (cA, 6, .inl (upd (S 1) (S 0 0).toNatClampNeg g))), (d 2, .inl (cA, 6, .inl (upd (S 2) (S 0 0).toNatClampNeg w))), (d 3, .inl (cA, 6, .inl (upd (S 3) (S 0 0).toNatClampNeg r))), (d 4, .inl (cA, 6, .inl (upd (S 4) (S 0 0).toNatClampNeg k))), (d 5, .inl (cA, 6, .inl (S 5))), (d 6, .inl (cA, 6, .inl (S 6))), (d 7, .inl (cA, 36, .inl (S 7)))] H := hP
    have hD : va_D A [(a, .inr (2, [.int (S 0 0), .ref (d 1), .ref (d 2), .ref (d 3), .ref (d 4), .ref (d 5), .ref (d 6), .int (S 0 1), .int (S 0 2), .int (S 0 3), .int (S 0 4), .int (S 0 5), .int (S 0 6), .int (S 0 7), .ref (d 7)])), (d 1, .inl (cA, 6, .inl (upd (S 1) (S 0 0).toNatClampNeg g))), (d 2, .inl (cA, 6, .inl (upd (S 2) (S 0 0).toNatClampNeg w))), (d 3, .inl (cA, 6, .inl (upd (S 3) (S 0 0).toNatClampNeg r))), (d 4, .inl (cA, 6, .inl (upd (S 4) (S 0 0).toNatClampNeg k))), (d 5, .inl (cA, 6, .inl (S 5))), (d 6, .inl (cA, 6, .inl (S 6))), (d 7, .inl (cA, 36, .inl (S 7)))] := hD
    refine lv_aload_n hx hb d_Shop_add_52 rfl (lv_at hl 0 rfl) ?_
    refine va_get (D := D) (ci := 2) (v := .ref (d 5)) (C := R_Shop) (T := T_Shop) (N := 15) hx hb hts i_Shop hown hK hP 0 rfl rfl 5 (by decide) (hts _ mb_41) (fun _ h9 => h9) rfl d_Shop_add_53 ?_
    refine lv_aload_n hx hb d_Shop_add_56 rfl (lv_at hl 0 rfl) ?_
    refine va_get (D := D) (ci := 2) (v := .int (S 0 0)) (C := R_Shop) (T := T_Shop) (N := 15) hx hb hts i_Shop hown hK hP 0 rfl rfl 0 (by decide) (hts _ mb_28) (fun _ h9 => h9) rfl d_Shop_add_57 ?_
    refine lv_iload hx hb d_Shop_add_60 (lv_at hl 5 rfl) ?_
    refine va_iast hx hb hK hP hD hS 5 0 rfl rfl hi6 d_Shop_add_62 (fun H locs hP hD hS => ?_)
    have hP : va_P D cls [(a, .inr (2, [.int (S 0 0), .ref (d 1), .ref (d 2), .ref (d 3), .ref (d 4), .ref (d 5), .ref (d 6), .int (S 0 1), .int (S 0 2), .int (S 0 3), .int (S 0 4), .int (S 0 5), .int (S 0 6), .int (S 0 7), .ref (d 7)])), (d 1, .inl (cA, 6, .inl (upd (S 1) (S 0 0).toNatClampNeg g))), (d 2, .inl (cA, 6, .inl (upd (S 2) (S 0 0).toNatClampNeg w))), (d 3, .inl (cA, 6, .inl (upd (S 3) (S 0 0).toNatClampNeg r))), (d 4, .inl (cA, 6, .inl (upd (S 4) (S 0 0).toNatClampNeg k))), (d 5, .inl (cA, 6, .inl (upd (S 5) (S 0 0).toNatClampNeg q))), (d 6, .inl (cA, 6, .inl (S 6))), (d 7, .inl (cA, 36, .inl (S 7)))] H := hP
    have hD : va_D A [(a, .inr (2, [.int (S 0 0), .ref (d 1), .ref (d 2), .ref (d 3), .ref (d 4), .ref (d 5), .ref (d 6), .int (S 0 1), .int (S 0 2), .int (S 0 3), .int (S 0 4), .int (S 0 5), .int (S 0 6), .int (S 0 7), .ref (d 7)])), (d 1, .inl (cA, 6, .inl (upd (S 1) (S 0 0).toNatClampNeg g))), (d 2, .inl (cA, 6, .inl (upd (S 2) (S 0 0).toNatClampNeg w))), (d 3, .inl (cA, 6, .inl (upd (S 3) (S 0 0).toNatClampNeg r))), (d 4, .inl (cA, 6, .inl (upd (S 4) (S 0 0).toNatClampNeg k))), (d 5, .inl (cA, 6, .inl (upd (S 5) (S 0 0).toNatClampNeg q))), (d 6, .inl (cA, 6, .inl (S 6))), (d 7, .inl (cA, 36, .inl (S 7)))] := hD
    refine lv_aload_n hx hb d_Shop_add_63 rfl (lv_at hl 0 rfl) ?_
    refine va_get (D := D) (ci := 2) (v := .ref (d 6)) (C := R_Shop) (T := T_Shop) (N := 15) hx hb hts i_Shop hown hK hP 0 rfl rfl 6 (by decide) (hts _ mb_43) (fun _ h9 => h9) rfl d_Shop_add_64 ?_
    refine lv_aload_n hx hb d_Shop_add_67 rfl (lv_at hl 0 rfl) ?_
    refine va_get (D := D) (ci := 2) (v := .int (S 0 0)) (C := R_Shop) (T := T_Shop) (N := 15) hx hb hts i_Shop hown hK hP 0 rfl rfl 0 (by decide) (hts _ mb_28) (fun _ h9 => h9) rfl d_Shop_add_68 ?_
    refine lv_iload hx hb d_Shop_add_71 (lv_at hl 6 rfl) ?_
    refine va_iast hx hb hK hP hD hS 6 0 rfl rfl hi6 d_Shop_add_73 (fun H locs hP hD hS => ?_)
    have hP : va_P D cls [(a, .inr (2, [.int (S 0 0), .ref (d 1), .ref (d 2), .ref (d 3), .ref (d 4), .ref (d 5), .ref (d 6), .int (S 0 1), .int (S 0 2), .int (S 0 3), .int (S 0 4), .int (S 0 5), .int (S 0 6), .int (S 0 7), .ref (d 7)])), (d 1, .inl (cA, 6, .inl (upd (S 1) (S 0 0).toNatClampNeg g))), (d 2, .inl (cA, 6, .inl (upd (S 2) (S 0 0).toNatClampNeg w))), (d 3, .inl (cA, 6, .inl (upd (S 3) (S 0 0).toNatClampNeg r))), (d 4, .inl (cA, 6, .inl (upd (S 4) (S 0 0).toNatClampNeg k))), (d 5, .inl (cA, 6, .inl (upd (S 5) (S 0 0).toNatClampNeg q))), (d 6, .inl (cA, 6, .inl (upd (S 6) (S 0 0).toNatClampNeg h))), (d 7, .inl (cA, 36, .inl (S 7)))] H := hP
    have hD : va_D A [(a, .inr (2, [.int (S 0 0), .ref (d 1), .ref (d 2), .ref (d 3), .ref (d 4), .ref (d 5), .ref (d 6), .int (S 0 1), .int (S 0 2), .int (S 0 3), .int (S 0 4), .int (S 0 5), .int (S 0 6), .int (S 0 7), .ref (d 7)])), (d 1, .inl (cA, 6, .inl (upd (S 1) (S 0 0).toNatClampNeg g))), (d 2, .inl (cA, 6, .inl (upd (S 2) (S 0 0).toNatClampNeg w))), (d 3, .inl (cA, 6, .inl (upd (S 3) (S 0 0).toNatClampNeg r))), (d 4, .inl (cA, 6, .inl (upd (S 4) (S 0 0).toNatClampNeg k))), (d 5, .inl (cA, 6, .inl (upd (S 5) (S 0 0).toNatClampNeg q))), (d 6, .inl (cA, 6, .inl (upd (S 6) (S 0 0).toNatClampNeg h))), (d 7, .inl (cA, 36, .inl (S 7)))] := hD
    refine lv_aload_n hx hb d_Shop_add_74 rfl (lv_at hl 0 rfl) ?_
    refine lv_dup hx hb d_Shop_add_75 rfl ?_
    refine va_get (D := D) (ci := 2) (v := .int (S 0 0)) (C := R_Shop) (T := T_Shop) (N := 15) hx hb hts i_Shop hown hK hP 0 rfl rfl 0 (by decide) (hts _ mb_28) (fun _ h9 => h9) rfl d_Shop_add_76 ?_
    refine lv_iconst (v := 1) hx hb d_Shop_add_79 (by decide) ?_
    refine lv_iadd hx hb d_Shop_add_80 ?_
    refine lv_topi (fun f_2 ef_2 => ?_)
    refine va_put (D := D) (ci := 2) (v := .int f_2) (ty := .int) (C := R_Shop) (T := T_Shop) (N := 15) hx hb hts i_Shop t_Shop t_Shop_ok n_Shop hown hK hP hD hS 0 rfl rfl 0 (by decide) (hts _ mb_28) (fun _ h9 => h9) rfl (by decide +kernel) rfl rfl (Nat.le_of_ble_eq_true rfl) d_Shop_add_81 (fun H locs hP hD hS => ?_)
    have hP : va_P D cls [(a, .inr (2, [.int f_2, .ref (d 1), .ref (d 2), .ref (d 3), .ref (d 4), .ref (d 5), .ref (d 6), .int (S 0 1), .int (S 0 2), .int (S 0 3), .int (S 0 4), .int (S 0 5), .int (S 0 6), .int (S 0 7), .ref (d 7)])), (d 1, .inl (cA, 6, .inl (upd (S 1) (S 0 0).toNatClampNeg g))), (d 2, .inl (cA, 6, .inl (upd (S 2) (S 0 0).toNatClampNeg w))), (d 3, .inl (cA, 6, .inl (upd (S 3) (S 0 0).toNatClampNeg r))), (d 4, .inl (cA, 6, .inl (upd (S 4) (S 0 0).toNatClampNeg k))), (d 5, .inl (cA, 6, .inl (upd (S 5) (S 0 0).toNatClampNeg q))), (d 6, .inl (cA, 6, .inl (upd (S 6) (S 0 0).toNatClampNeg h))), (d 7, .inl (cA, 36, .inl (S 7)))] H := hP
    have hD : va_D A [(a, .inr (2, [.int f_2, .ref (d 1), .ref (d 2), .ref (d 3), .ref (d 4), .ref (d 5), .ref (d 6), .int (S 0 1), .int (S 0 2), .int (S 0 3), .int (S 0 4), .int (S 0 5), .int (S 0 6), .int (S 0 7), .ref (d 7)])), (d 1, .inl (cA, 6, .inl (upd (S 1) (S 0 0).toNatClampNeg g))), (d 2, .inl (cA, 6, .inl (upd (S 2) (S 0 0).toNatClampNeg w))), (d 3, .inl (cA, 6, .inl (upd (S 3) (S 0 0).toNatClampNeg r))), (d 4, .inl (cA, 6, .inl (upd (S 4) (S 0 0).toNatClampNeg k))), (d 5, .inl (cA, 6, .inl (upd (S 5) (S 0 0).toNatClampNeg q))), (d 6, .inl (cA, 6, .inl (upd (S 6) (S 0 0).toNatClampNeg h))), (d 7, .inl (cA, 36, .inl (S 7)))] := hD
    refine lv_aload_n hx hb d_Shop_add_84 rfl (lv_at hl 0 rfl) ?_
    refine va_get (D := D) (ci := 2) (v := .int f_2) (C := R_Shop) (T := T_Shop) (N := 15) hx hb hts i_Shop hown hK hP 0 rfl rfl 0 (by decide) (hts _ mb_28) (fun _ h9 => h9) rfl d_Shop_add_85 ?_
    refine lv_iconst (v := 1) hx hb d_Shop_add_88 (by decide) ?_
    refine lv_isub hx hb d_Shop_add_89 ?_
    refine lv_topi (fun f_3 ef_3 => ?_)
    have e9 : r_Shop_add S g w r k q h = (f_3, (tb [(tv [f_2, S 0 1, S 0 2, S 0 3, S 0 4, S 0 5, S 0 6, S 0 7]), upd (S 1) (S 0 0).toNatClampNeg g, upd (S 2) (S 0 0).toNatClampNeg w, upd (S 3) (S 0 0).toNatClampNeg r, upd (S 4) (S 0 0).toNatClampNeg k, upd (S 5) (S 0 0).toNatClampNeg q, upd (S 6) (S 0 0).toNatClampNeg h, S 7])) := by
      unfold r_Shop_add
      refine (if_pos c_1).trans ?_
      refine lt_eq ef_2 ?_
      refine lt_eq ef_3 ?_
      rfl
    exact W.iret (v := f_3) hx hb hr (fun t ht hW => ⟨⟨_, (), rfl, (by rw [e9]), (by rw [e9, ht]; try dsimp only; exact hP.sub [0, 1, 2, 3, 4, 5, 6, 7] rfl), (by rw [e9]; try dsimp only; exact hD.sub [0, 1, 2, 3, 4, 5, 6, 7] (by decide) rfl)⟩, hS.F ht⟩) hS.2.2 d_Shop_add_90
  · skip
    refine lv_iconst (v := (-1)) hx hb d_Shop_add_9 (by decide) ?_
    have e9 : r_Shop_add S g w r k q h = ((-1), S) := by
      unfold r_Shop_add
      refine (if_neg c_1).trans ?_
      rfl
    exact W.iret (v := (-1)) hx hb hr (fun t ht hW => ⟨⟨_, (), rfl, (by rw [e9]), (by rw [e9, ht]; try dsimp only; exact hP.sub [0, 1, 2, 3, 4, 5, 6, 7] rfl), (by rw [e9]; try dsimp only; exact hD.sub [0, 1, 2, 3, 4, 5, 6, 7] (by decide) rfl)⟩, hS.F ht⟩) hS.2.2 d_Shop_add_10
