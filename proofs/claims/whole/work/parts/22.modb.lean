/-! the model: bound, isUsed -/
def q_Mod_bound  : Nat → Int32 → Int32 → (Nat → Nat → Int32) → Int32 × (Nat → Nat → Int32)
  | 0, _, _, _ => (0, fun _ _ => 0)
  | n + 1, h, j, M => if M 0 1 ≤ h then ((j, M)) else (let f_2 : Int32 := M 3 h.toNatClampNeg; let f_3 : Int32 := M 4 h.toNatClampNeg; let f_4 : Int32 := f_2 + f_3; let f_5 : Int32 := M 5 h.toNatClampNeg; let f_6 : Int32 := f_4 - f_5; let f_9 : Int32 := (if f_6 ≤ 0 then (0) else (let f_8 : Int32 := f_6 * (M 0 8); f_8)); let f_10 : Int32 := j + f_9; let x_11 : Int32 := h + 1; q_Mod_bound n x_11 f_10 M)
set_option maxHeartbeats 4000000 in
set_option maxRecDepth 100000 in
theorem lp_Mod_bound {l : Launch} {D : va_G} {cA cZ cL : ClassId} (a : Nat) (d : Nat → Nat)  {p : Program} {e : Env} {s : State} {m : MethodId} {args : Array Value} {below : List Frame} {meth : Method} {c : Code} {A : Nat → Prop} (hx : p.tables.exec = Jvm.exec) (hb : c.code = c_Mod_bound) (hr : meth.sig.returnType = (some .int)) (hml : c.maxLocals = 4) (hts : ∀ w ∈ base, w.before args s = true) (hown : s.vm.findClass R_Mod = some m.cls) (hlocks : meth.locks = false) (hK : va_K D cls (tys3 cA cZ cL) s) (hZ : hz s) (hA : ∀ q : Nat, s.heap.size ≤ q → A q) :
    ∀ (n : Nat) (h : Int32) (j : Int32) (M : (Nat → Nat → Int32)), ((0 ≤ h.toInt ∧ h.toInt ≤ 6 ∧ 7 < h.toInt + (n : Int)) ∧ (∃ n : Nat, n ≤ 6 ∧ M 0 1 = nI n)) → ∀ (H : Heap) (locs : List Loc), va_P D cls [(a, .inr (4, [.int (M 0 0), .int (M 0 1), .ref (d 1), .ref (d 2), .ref (d 3), .ref (d 4), .ref (d 5), .ref (d 6), .int (M 0 2), .int (M 0 3), .int (M 0 4), .int (M 0 5), .int (M 0 6), .int (M 0 7), .int (M 0 8), .ref (d 7), .int (M 0 9), .int (M 0 10), .int (M 0 11), .int (M 0 12), .ref (d 8), .ref (d 9), .ref (d 10), .ref (d 11), .ref (d 12), .ref (d 13), .int (M 0 13), .int (M 0 14), .int (M 0 15)])), (d 1, .inl (cA, 6, .inl (M 1))), (d 2, .inl (cA, 6, .inl (M 2))), (d 3, .inl (cA, 6, .inl (M 3))), (d 4, .inl (cA, 6, .inl (M 4))), (d 5, .inl (cA, 6, .inl (M 5))), (d 6, .inl (cA, 6, .inl (M 6))), (d 7, .inl (cA, 36, .inl (M 7))), (d 8, .inl (cA, 6, .inl (M 8))), (d 9, .inl (cA, 7, .inl (M 9))), (d 10, .inl (cA, 6, .inl (M 10))), (d 11, .inl (cA, 6, .inl (M 11))), (d 12, .inl (cA, 6, .inl (M 12))), (d 13, .inl (cZ, 6, .inl (M 13)))] H → va_D A [(a, .inr (4, [.int (M 0 0), .int (M 0 1), .ref (d 1), .ref (d 2), .ref (d 3), .ref (d 4), .ref (d 5), .ref (d 6), .int (M 0 2), .int (M 0 3), .int (M 0 4), .int (M 0 5), .int (M 0 6), .int (M 0 7), .int (M 0 8), .ref (d 7), .int (M 0 9), .int (M 0 10), .int (M 0 11), .int (M 0 12), .ref (d 8), .ref (d 9), .ref (d 10), .ref (d 11), .ref (d 12), .ref (d 13), .int (M 0 13), .int (M 0 14), .int (M 0 15)])), (d 1, .inl (cA, 6, .inl (M 1))), (d 2, .inl (cA, 6, .inl (M 2))), (d 3, .inl (cA, 6, .inl (M 3))), (d 4, .inl (cA, 6, .inl (M 4))), (d 5, .inl (cA, 6, .inl (M 5))), (d 6, .inl (cA, 6, .inl (M 6))), (d 7, .inl (cA, 36, .inl (M 7))), (d 8, .inl (cA, 6, .inl (M 8))), (d 9, .inl (cA, 7, .inl (M 9))), (d 10, .inl (cA, 6, .inl (M 10))), (d 11, .inl (cA, 6, .inl (M 11))), (d 12, .inl (cA, 6, .inl (M 12))), (d 13, .inl (cZ, 6, .inl (M 13)))] → va_S A s.heap H locs → ∀ ls : Array Slot, lv_has ls 4 [(2, .int h), (1, .int j), (0, .ref a)] → W p l e ({ frames := 0, cells := 0, slots := 0, locals := 0 } : Room) s m args below meth c H locs 0 0 (MQ below (va_Qi (fun r (_ : Unit) => r = (q_Mod_bound n h j M).1) (fun _ => hw_At D cls (tys3 cA cZ cL) A (wMod cA cZ a d ((q_Mod_bound n h j M).2))) A) args s 0 0 A) (F0 m 9 ls []) := by
  intro n
  induction n with
  | zero =>
    intro h j M hi
    exact absurd hi (by rintro ⟨h, -⟩; omega)
  | succ n ih =>
    intro h j M hi H locs hP hD hS ls hl
    refine lv_iload_n hx hb d_Mod_bound_9 rfl (lv_at hl 0 rfl) ?_
    refine lv_aload_n hx hb d_Mod_bound_10 rfl (lv_at hl 2 rfl) ?_
    refine va_get (D := D) (ci := 4) (v := .int (M 0 1)) (C := R_Mod) (T := T_Mod) (N := 29) hx hb hts i_Mod hown hK hP 0 rfl rfl 1 (by decide) (hts _ mb_524) (fun _ h9 => h9) rfl d_Mod_bound_11 ?_
    refine lv_icmp_ge (tgt := 61) hx hb d_Mod_bound_14 (by decide) (fun c_1 => ?_) (fun c_1 => ?_)
    · skip
      refine lv_iload_n hx hb d_Mod_bound_61 rfl (lv_at hl 1 rfl) ?_
      have e9 : q_Mod_bound (n + 1) h j M = (j, M) := by
        rw [q_Mod_bound]; simp only [if_pos c_1]
      exact W.iret (v := j) hx hb hr (fun t ht hW => ⟨⟨_, (), rfl, (by rw [e9]), (by rw [e9, ht]; exact hP.sub [0, 1, 2, 3, 4, 5, 6, 7, 8, 9, 10, 11, 12, 13] rfl), (by rw [e9]; exact hD.sub [0, 1, 2, 3, 4, 5, 6, 7, 8, 9, 10, 11, 12, 13] (by decide) rfl)⟩, hS.F ht⟩) hS.2.2 d_Mod_bound_62
    · skip
      have hh6 : vp_in h 6 := in_lt hi.2 hi.1.1 c_1
      refine lv_aload_n hx hb d_Mod_bound_17 rfl (lv_at hl 2 rfl) ?_
      refine va_get (D := D) (ci := 4) (v := .ref (d 3)) (C := R_Mod) (T := T_Mod) (N := 29) hx hb hts i_Mod hown hK hP 0 rfl rfl 4 (by decide) (hts _ mb_527) (fun _ h9 => h9) rfl d_Mod_bound_18 ?_
      refine lv_iload_n hx hb d_Mod_bound_21 rfl (lv_at hl 0 rfl) ?_
      refine va_iald hx hb hK hP 3 0 rfl rfl hh6 d_Mod_bound_22 ?_
      refine lv_topi (fun f_2 ef_2 => ?_)
      refine lv_aload_n hx hb d_Mod_bound_23 rfl (lv_at hl 2 rfl) ?_
      refine va_get (D := D) (ci := 4) (v := .ref (d 4)) (C := R_Mod) (T := T_Mod) (N := 29) hx hb hts i_Mod hown hK hP 0 rfl rfl 5 (by decide) (hts _ mb_528) (fun _ h9 => h9) rfl d_Mod_bound_24 ?_
      refine lv_iload_n hx hb d_Mod_bound_27 rfl (lv_at hl 0 rfl) ?_
      refine va_iald hx hb hK hP 4 0 rfl rfl hh6 d_Mod_bound_28 ?_
      refine lv_topi (fun f_3 ef_3 => ?_)
      refine lv_iadd hx hb d_Mod_bound_29 ?_
      refine lv_topi (fun f_4 ef_4 => ?_)
      refine lv_aload_n hx hb d_Mod_bound_30 rfl (lv_at hl 2 rfl) ?_
      refine va_get (D := D) (ci := 4) (v := .ref (d 5)) (C := R_Mod) (T := T_Mod) (N := 29) hx hb hts i_Mod hown hK hP 0 rfl rfl 6 (by decide) (hts _ mb_529) (fun _ h9 => h9) rfl d_Mod_bound_31 ?_
      refine lv_iload_n hx hb d_Mod_bound_34 rfl (lv_at hl 0 rfl) ?_
      refine va_iald hx hb hK hP 5 0 rfl rfl hh6 d_Mod_bound_35 ?_
      refine lv_topi (fun f_5 ef_5 => ?_)
      refine lv_isub hx hb d_Mod_bound_36 ?_
      refine lv_topi (fun f_6 ef_6 => ?_)
      refine lv_istore_n (lv' := [(3, .int f_6), (2, .int h), (1, .int j), (0, .ref a)]) hx hb d_Mod_bound_37 rfl hl (by decide) rfl (fun ls hl => ?_)
      refine lv_iload_n hx hb d_Mod_bound_38 rfl (lv_at hl 2 rfl) ?_
      refine jn 53 [.int j] 4 [(3, .int f_6), (2, .int h), (1, .int j), (0, .ref a)] (if f_6 ≤ 0 then (0) else (let f_8 : Int32 := f_6 * (M 0 8); f_8)) (fun f_9 ls ef_9 hl => ?_) (fun J => ?_)
      · skip
        refine lv_iadd hx hb d_Mod_bound_53 ?_
        refine lv_topi (fun f_10 ef_10 => ?_)
        refine lv_istore_n (lv' := [(1, .int f_10), (3, .int f_6), (2, .int h), (0, .ref a)]) hx hb d_Mod_bound_54 rfl hl (by decide) rfl (fun ls hl => ?_)
        obtain ⟨x_11, ex_11⟩ : ∃ y : Int32, y = h + 1 := ⟨_, rfl⟩
        refine lv_iinc (v := x_11) (lv' := [(2, .int x_11), (1, .int f_10), (3, .int f_6), (0, .ref a)]) hx hb d_Mod_bound_55 hl (k := 2) rfl (by rw [ex_11]; rfl) (by decide) rfl (fun ls hl => ?_)
        refine lv_goto (tgt := 9) hx hb d_Mod_bound_58 (by decide) ?_
        have e9 : q_Mod_bound (n + 1) h j M = q_Mod_bound n x_11 f_10 M := by
          subst ef_2 ef_3 ef_4 ef_5 ef_6 ef_9 ef_10 ex_11; rw [q_Mod_bound]; simp only [if_neg c_1]
        rw [e9]
        exact ih x_11 f_10 M ⟨by rw [ex_11, toInt_s hh6 (by decide)]; have h8 := vp_in_iff.mp hh6; omega, hi.2⟩ _ _ (hP.sub [0, 1, 2, 3, 4, 5, 6, 7, 8, 9, 10, 11, 12, 13] rfl) (hD.sub [0, 1, 2, 3, 4, 5, 6, 7, 8, 9, 10, 11, 12, 13] (by decide) rfl) hS _ (lv_sub hl [0, 1, 3] rfl)
      · skip
        refine lv_iload_n hx hb d_Mod_bound_39 rfl (lv_at hl 0 rfl) ?_
        refine lv_if_le (tgt := 52) hx hb d_Mod_bound_40 (by decide) (fun c_7 => ?_) (fun c_7 => ?_)
        · skip
          refine lv_iconst (v := 0) hx hb d_Mod_bound_52 (by decide) ?_
          exact J _ _ (by simp only [if_pos c_7]) (lv_sub hl [0, 1, 2, 3] rfl)
        · skip
          refine lv_iload_n hx hb d_Mod_bound_43 rfl (lv_at hl 0 rfl) ?_
          refine lv_aload_n hx hb d_Mod_bound_44 rfl (lv_at hl 3 rfl) ?_
          refine va_get (D := D) (ci := 4) (v := .int (M 0 8)) (C := R_Mod) (T := T_Mod) (N := 29) hx hb hts i_Mod hown hK hP 0 rfl rfl 14 (by decide) (hts _ mb_537) (fun _ h9 => h9) rfl d_Mod_bound_45 ?_
          refine lv_imul hx hb d_Mod_bound_48 ?_
          refine lv_topi (fun f_8 ef_8 => ?_)
          refine lv_goto (tgt := 53) hx hb d_Mod_bound_49 (by decide) ?_
          exact J _ _ (by subst ef_8; simp only [if_neg c_7]) (lv_sub hl [0, 1, 2, 3] rfl)
def r_Mod_bound (M : Nat → Nat → Int32) : Int32 × (Nat → Nat → Int32) := q_Mod_bound 8 0 0 (tb [(tv [0, M 0 1, M 0 2, M 0 3, M 0 4, M 0 5, M 0 6, M 0 7, M 0 8, M 0 9, M 0 10, M 0 11, M 0 12, M 0 13, M 0 14, M 0 15]), M 1, M 2, M 3, M 4, M 5, M 6, M 7, M 8, M 9, M 10, M 11, M 12, M 13])
set_option maxHeartbeats 4000000 in
set_option maxRecDepth 100000 in
theorem k_Mod_bound (l : Launch) (D : va_G) (cA cZ cL : ClassId) (a : Nat) (d : Nat → Nat) (M : Nat → Nat → Int32) (hN : ∃ n : Nat, n ≤ 6 ∧ M 0 1 = nI n) : MetI l y_Mod_bound (Cond.code y_Mod_bound c_Mod_bound 4 (some .int) :: base) ({ frames := 0, cells := 0, slots := 0, locals := 0 } : Room) D cls (tys3 cA cZ cL) ([.ref a]) (wMod cA cZ a d M) (r_Mod_bound M).1 (wMod cA cZ a d ((r_Mod_bound M).2)) := by
  intro sz
  refine Met.ofW (cc := c_Mod_bound) (maxL := 4) (ret := (some .int)) (by decide) rfl ?_
  intro p e s m args below meth c s₁ B hml hv
  obtain ⟨rfl, hsz, hP, hK, hZ, hD0⟩ := hv
  have hx := B.exec
  have hb := B.bytes
  have hr := B.returns
  have hts0 := atoms_spec (ws := (Cond.code y_Mod_bound c_Mod_bound 4 (some .int) :: base)) B.pre
  have hts : ∀ w ∈ base, w.before _ s = true := fun w h => hts0 w (List.mem_cons_of_mem _ h)
  have hown : s.vm.findClass R_Mod = some m.cls := findClass_of_methodNamed B.named
  have hlocks := B.notSynchronized
  have hP : va_P D cls [(a, .inr (4, [.int (M 0 0), .int (M 0 1), .ref (d 1), .ref (d 2), .ref (d 3), .ref (d 4), .ref (d 5), .ref (d 6), .int (M 0 2), .int (M 0 3), .int (M 0 4), .int (M 0 5), .int (M 0 6), .int (M 0 7), .int (M 0 8), .ref (d 7), .int (M 0 9), .int (M 0 10), .int (M 0 11), .int (M 0 12), .ref (d 8), .ref (d 9), .ref (d 10), .ref (d 11), .ref (d 12), .ref (d 13), .int (M 0 13), .int (M 0 14), .int (M 0 15)])), (d 1, .inl (cA, 6, .inl (M 1))), (d 2, .inl (cA, 6, .inl (M 2))), (d 3, .inl (cA, 6, .inl (M 3))), (d 4, .inl (cA, 6, .inl (M 4))), (d 5, .inl (cA, 6, .inl (M 5))), (d 6, .inl (cA, 6, .inl (M 6))), (d 7, .inl (cA, 36, .inl (M 7))), (d 8, .inl (cA, 6, .inl (M 8))), (d 9, .inl (cA, 7, .inl (M 9))), (d 10, .inl (cA, 6, .inl (M 10))), (d 11, .inl (cA, 6, .inl (M 11))), (d 12, .inl (cA, 6, .inl (M 12))), (d 13, .inl (cZ, 6, .inl (M 13)))] s.heap := hP
  subst hsz
  have hD := hD0.self (sz := s.heap.size)
  generalize hAe : va_A (wMod cA cZ a d M) s.heap.size = A at hD ⊢
  have hA : ∀ q : Nat, s.heap.size ≤ q → A q := fun q h => by rw [← hAe]; exact Or.inr h
  have hS : va_S A s.heap s.heap [] := va_S.rf
  have hD : va_D A [(a, .inr (4, [.int (M 0 0), .int (M 0 1), .ref (d 1), .ref (d 2), .ref (d 3), .ref (d 4), .ref (d 5), .ref (d 6), .int (M 0 2), .int (M 0 3), .int (M 0 4), .int (M 0 5), .int (M 0 6), .int (M 0 7), .int (M 0 8), .ref (d 7), .int (M 0 9), .int (M 0 10), .int (M 0 11), .int (M 0 12), .ref (d 8), .ref (d 9), .ref (d 10), .ref (d 11), .ref (d 12), .ref (d 13), .int (M 0 13), .int (M 0 14), .int (M 0 15)])), (d 1, .inl (cA, 6, .inl (M 1))), (d 2, .inl (cA, 6, .inl (M 2))), (d 3, .inl (cA, 6, .inl (M 3))), (d 4, .inl (cA, 6, .inl (M 4))), (d 5, .inl (cA, 6, .inl (M 5))), (d 6, .inl (cA, 6, .inl (M 6))), (d 7, .inl (cA, 36, .inl (M 7))), (d 8, .inl (cA, 6, .inl (M 8))), (d 9, .inl (cA, 7, .inl (M 9))), (d 10, .inl (cA, 6, .inl (M 10))), (d 11, .inl (cA, 6, .inl (M 11))), (d 12, .inl (cA, 6, .inl (M 12))), (d 13, .inl (cZ, 6, .inl (M 13)))] := hD
  have hl := lv_entry ([.ref a]) (n := 4) (Nat.le_of_ble_eq_true rfl)
  rw [lg_entry_eq]
  generalize (lg_sl ([.ref a]) ++ List.replicate (4 - (lg_sl ([.ref a])).length) Slot.unset).toArray = ls at hl ⊢
  have hl : lv_has ls 4 [(0, .ref a)] := hl
  refine lv_aload_n hx hb d_Mod_bound_0 rfl (lv_at hl 0 rfl) ?_
  refine lv_iconst (v := 0) hx hb d_Mod_bound_1 (by decide) ?_
  refine va_put (D := D) (ci := 4) (v := .int 0) (ty := .int) (C := R_Mod) (T := T_Mod) (N := 29) hx hb hts i_Mod t_Mod t_Mod_ok n_Mod hown hK hP hD hS 0 rfl rfl 0 (by decide) (hts _ mb_523) (fun _ h9 => h9) rfl (by decide +kernel) rfl rfl (Nat.le_of_ble_eq_true rfl) d_Mod_bound_2 (fun H locs hP hD hS => ?_)
  have hP : va_P D cls [(a, .inr (4, [.int 0, .int (M 0 1), .ref (d 1), .ref (d 2), .ref (d 3), .ref (d 4), .ref (d 5), .ref (d 6), .int (M 0 2), .int (M 0 3), .int (M 0 4), .int (M 0 5), .int (M 0 6), .int (M 0 7), .int (M 0 8), .ref (d 7), .int (M 0 9), .int (M 0 10), .int (M 0 11), .int (M 0 12), .ref (d 8), .ref (d 9), .ref (d 10), .ref (d 11), .ref (d 12), .ref (d 13), .int (M 0 13), .int (M 0 14), .int (M 0 15)])), (d 1, .inl (cA, 6, .inl (M 1))), (d 2, .inl (cA, 6, .inl (M 2))), (d 3, .inl (cA, 6, .inl (M 3))), (d 4, .inl (cA, 6, .inl (M 4))), (d 5, .inl (cA, 6, .inl (M 5))), (d 6, .inl (cA, 6, .inl (M 6))), (d 7, .inl (cA, 36, .inl (M 7))), (d 8, .inl (cA, 6, .inl (M 8))), (d 9, .inl (cA, 7, .inl (M 9))), (d 10, .inl (cA, 6, .inl (M 10))), (d 11, .inl (cA, 6, .inl (M 11))), (d 12, .inl (cA, 6, .inl (M 12))), (d 13, .inl (cZ, 6, .inl (M 13)))] H := hP
  have hD : va_D A [(a, .inr (4, [.int 0, .int (M 0 1), .ref (d 1), .ref (d 2), .ref (d 3), .ref (d 4), .ref (d 5), .ref (d 6), .int (M 0 2), .int (M 0 3), .int (M 0 4), .int (M 0 5), .int (M 0 6), .int (M 0 7), .int (M 0 8), .ref (d 7), .int (M 0 9), .int (M 0 10), .int (M 0 11), .int (M 0 12), .ref (d 8), .ref (d 9), .ref (d 10), .ref (d 11), .ref (d 12), .ref (d 13), .int (M 0 13), .int (M 0 14), .int (M 0 15)])), (d 1, .inl (cA, 6, .inl (M 1))), (d 2, .inl (cA, 6, .inl (M 2))), (d 3, .inl (cA, 6, .inl (M 3))), (d 4, .inl (cA, 6, .inl (M 4))), (d 5, .inl (cA, 6, .inl (M 5))), (d 6, .inl (cA, 6, .inl (M 6))), (d 7, .inl (cA, 36, .inl (M 7))), (d 8, .inl (cA, 6, .inl (M 8))), (d 9, .inl (cA, 7, .inl (M 9))), (d 10, .inl (cA, 6, .inl (M 10))), (d 11, .inl (cA, 6, .inl (M 11))), (d 12, .inl (cA, 6, .inl (M 12))), (d 13, .inl (cZ, 6, .inl (M 13)))] := hD
  refine lv_iconst (v := 0) hx hb d_Mod_bound_5 (by decide) ?_
  refine lv_istore_n (lv' := [(1, .int 0), (0, .ref a)]) hx hb d_Mod_bound_6 rfl hl (by decide) rfl (fun ls hl => ?_)
  refine lv_iconst (v := 0) hx hb d_Mod_bound_7 (by decide) ?_
  refine lv_istore_n (lv' := [(2, .int 0), (1, .int 0), (0, .ref a)]) hx hb d_Mod_bound_8 rfl hl (by decide) rfl (fun ls hl => ?_)
  have e9 : r_Mod_bound M = q_Mod_bound 8 0 0 (tb [(tv [0, M 0 1, M 0 2, M 0 3, M 0 4, M 0 5, M 0 6, M 0 7, M 0 8, M 0 9, M 0 10, M 0 11, M 0 12, M 0 13, M 0 14, M 0 15]), M 1, M 2, M 3, M 4, M 5, M 6, M 7, M 8, M 9, M 10, M 11, M 12, M 13]) := by
    rfl
  rw [e9]
  exact (lp_Mod_bound a d  hx hb hr hml hts hown hlocks hK hZ hA 8) 0 0 (tb [(tv [0, M 0 1, M 0 2, M 0 3, M 0 4, M 0 5, M 0 6, M 0 7, M 0 8, M 0 9, M 0 10, M 0 11, M 0 12, M 0 13, M 0 14, M 0 15]), M 1, M 2, M 3, M 4, M 5, M 6, M 7, M 8, M 9, M 10, M 11, M 12, M 13]) ⟨by decide, hN⟩ _ _ (hP.sub [0, 1, 2, 3, 4, 5, 6, 7, 8, 9, 10, 11, 12, 13] rfl) (hD.sub [0, 1, 2, 3, 4, 5, 6, 7, 8, 9, 10, 11, 12, 13] (by decide) rfl) hS _ (lv_sub hl [0, 1, 2] rfl)
def q_Mod_isUsed (M : Nat → Nat → Int32) (k : Int32) : Nat → Int32 → Int32 → Int32
  | 0, _, _ => 0
  | n + 1, j, h => if k ≤ j then (h) else (let f_8 : Int32 := (if h = 0 then (let f_3 : Int32 := M 9 j.toNatClampNeg; let f_4 : Int32 := f_3 / 2; let f_5 : Int32 := M 9 k.toNatClampNeg; let f_6 : Int32 := f_5 / 2; if f_4 = f_6 then (1) else (0)) else (1)); let x_9 : Int32 := j + 1; q_Mod_isUsed M k n x_9 f_8)
set_option maxHeartbeats 4000000 in
set_option maxRecDepth 100000 in
theorem lp_Mod_isUsed {l : Launch} {D : va_G} {cA cZ cL : ClassId} (a : Nat) (d : Nat → Nat) (M : Nat → Nat → Int32) (k : Int32) (hk : vp_in k 7) {p : Program} {e : Env} {s : State} {m : MethodId} {args : Array Value} {below : List Frame} {meth : Method} {c : Code} (hx : p.tables.exec = Jvm.exec) (hb : c.code = c_Mod_isUsed) (hr : meth.sig.returnType = (some .boolean)) (hml : c.maxLocals = 4) (hts : ∀ w ∈ base, w.before args s = true) (hown : s.vm.findClass R_Mod = some m.cls) (hlocks : meth.locks = false) (hK : va_K D cls (tys3 cA cZ cL) s) (hZ : hz s) (hP : va_P D cls [(a, .inr (4, [.int (M 0 0), .int (M 0 1), .ref (d 1), .ref (d 2), .ref (d 3), .ref (d 4), .ref (d 5), .ref (d 6), .int (M 0 2), .int (M 0 3), .int (M 0 4), .int (M 0 5), .int (M 0 6), .int (M 0 7), .int (M 0 8), .ref (d 7), .int (M 0 9), .int (M 0 10), .int (M 0 11), .int (M 0 12), .ref (d 8), .ref (d 9), .ref (d 10), .ref (d 11), .ref (d 12), .ref (d 13), .int (M 0 13), .int (M 0 14), .int (M 0 15)])), (d 1, .inl (cA, 6, .inl (M 1))), (d 2, .inl (cA, 6, .inl (M 2))), (d 3, .inl (cA, 6, .inl (M 3))), (d 4, .inl (cA, 6, .inl (M 4))), (d 5, .inl (cA, 6, .inl (M 5))), (d 6, .inl (cA, 6, .inl (M 6))), (d 7, .inl (cA, 36, .inl (M 7))), (d 8, .inl (cA, 6, .inl (M 8))), (d 9, .inl (cA, 7, .inl (M 9))), (d 10, .inl (cA, 6, .inl (M 10))), (d 11, .inl (cA, 6, .inl (M 11))), (d 12, .inl (cA, 6, .inl (M 12))), (d 13, .inl (cZ, 6, .inl (M 13)))] s.heap) :
    ∀ (n : Nat) (j : Int32) (h : Int32), ((0 ≤ j.toInt ∧ j.toInt ≤ 6 ∧ 7 < j.toInt + (n : Int)) ∧ (h = 0 ∨ h = 1)) → ∀ ls : Array Slot, lv_has ls 4 [(3, .int j), (2, .int h), (0, .ref a), (1, .int k)] → W p l e ({ frames := 0, cells := 0, slots := 0, locals := 0 } : Room) s m args below meth c s.heap [] 0 0 (MQ below (vp_Si (fun r => r = q_Mod_isUsed M k n j h)) args s 0 0 (fun _ => False)) (F0 m 4 ls []) := by
  intro n
  induction n with
  | zero =>
    intro j h hi
    exact absurd hi (by rintro ⟨h, -⟩; omega)
  | succ n ih =>
    intro j h hi ls hl
    refine lv_iload_n hx hb d_Mod_isUsed_4 rfl (lv_at hl 0 rfl) ?_
    refine lv_iload_n hx hb d_Mod_isUsed_5 rfl (lv_at hl 3 rfl) ?_
    refine lv_icmp_ge (tgt := 44) hx hb d_Mod_isUsed_6 (by decide) (fun c_1 => ?_) (fun c_1 => ?_)
    · skip
      refine lv_iload_n hx hb d_Mod_isUsed_44 rfl (lv_at hl 1 rfl) ?_
      have e9 : q_Mod_isUsed M k (n + 1) j h = h := by
        rw [q_Mod_isUsed]; simp only [if_pos c_1]
      exact W.zret (v := h) hx hb hr (bool_nar (by exact hi.2)) (fun t ht _ => ⟨_, rfl, e9.symm, ht⟩) (fun _ h => by cases h) d_Mod_isUsed_45
    · skip
      have hj6 : vp_in j 6 := in_lt7 hk hi.1.1 c_1
      refine jn 37 [] 4 [(3, .int j), (2, .int h), (0, .ref a), (1, .int k)] (if h = 0 then (let f_3 : Int32 := M 9 j.toNatClampNeg; let f_4 : Int32 := f_3 / 2; let f_5 : Int32 := M 9 k.toNatClampNeg; let f_6 : Int32 := f_5 / 2; if f_4 = f_6 then (1) else (0)) else (1)) (fun f_8 ls ef_8 hl => ?_) (fun J => ?_)
      · skip
        refine lv_istore_n (lv' := [(2, .int f_8), (3, .int j), (0, .ref a), (1, .int k)]) hx hb d_Mod_isUsed_37 rfl hl (by decide) rfl (fun ls hl => ?_)
        obtain ⟨x_9, ex_9⟩ : ∃ y : Int32, y = j + 1 := ⟨_, rfl⟩
        refine lv_iinc (v := x_9) (lv' := [(3, .int x_9), (2, .int f_8), (0, .ref a), (1, .int k)]) hx hb d_Mod_isUsed_38 hl (k := 1) rfl (by rw [ex_9]; rfl) (by decide) rfl (fun ls hl => ?_)
        refine lv_goto (tgt := 4) hx hb d_Mod_isUsed_41 (by decide) ?_
        have e9 : q_Mod_isUsed M k (n + 1) j h = q_Mod_isUsed M k n x_9 f_8 := by
          subst ef_8 ex_9; rw [q_Mod_isUsed]; simp only [if_neg c_1]
        rw [e9]
        exact ih x_9 f_8 ⟨by rw [ex_9, toInt_s hj6 (by decide)]; have h8 := vp_in_iff.mp hj6; omega, by rw [ef_8]; dsimp only; (repeat' split) <;> (first | exact Or.inl rfl | exact Or.inr rfl)⟩ _ (lv_sub hl [0, 1, 2, 3] rfl)
      · skip
        refine lv_iload_n hx hb d_Mod_isUsed_9 rfl (lv_at hl 1 rfl) ?_
        refine lv_if_ne (tgt := 32) hx hb d_Mod_isUsed_10 (by decide) (fun c_2 => ?_) (fun c_2 => ?_)
        · skip
          refine lv_iconst (v := 1) hx hb d_Mod_isUsed_32 (by decide) ?_
          refine lv_goto (tgt := 37) hx hb d_Mod_isUsed_33 (by decide) ?_
          exact J _ _ (by simp only [if_neg c_2]) (lv_sub hl [0, 1, 2, 3] rfl)
        · skip
          refine lv_aload_n hx hb d_Mod_isUsed_13 rfl (lv_at hl 2 rfl) ?_
          refine va_get (D := D) (ci := 4) (v := .ref (d 9)) (C := R_Mod) (T := T_Mod) (N := 29) hx hb hts i_Mod hown hK hP 0 rfl rfl 21 (by decide) (hts _ mb_544) (fun _ h9 => h9) rfl d_Mod_isUsed_14 ?_
          refine lv_iload_n hx hb d_Mod_isUsed_17 rfl (lv_at hl 0 rfl) ?_
          refine va_iald hx hb hK hP 9 0 rfl rfl (in_le hj6 (by decide)) d_Mod_isUsed_18 ?_
          refine lv_topi (fun f_3 ef_3 => ?_)
          refine lv_iconst (v := 2) hx hb d_Mod_isUsed_19 (by decide) ?_
          refine lv_idiv hx hb d_Mod_isUsed_20 (by decide) ?_
          refine lv_topi (fun f_4 ef_4 => ?_)
          refine lv_aload_n hx hb d_Mod_isUsed_21 rfl (lv_at hl 2 rfl) ?_
          refine va_get (D := D) (ci := 4) (v := .ref (d 9)) (C := R_Mod) (T := T_Mod) (N := 29) hx hb hts i_Mod hown hK hP 0 rfl rfl 21 (by decide) (hts _ mb_544) (fun _ h9 => h9) rfl d_Mod_isUsed_22 ?_
          refine lv_iload_n hx hb d_Mod_isUsed_25 rfl (lv_at hl 3 rfl) ?_
          refine va_iald hx hb hK hP 9 0 rfl rfl hk d_Mod_isUsed_26 ?_
          refine lv_topi (fun f_5 ef_5 => ?_)
          refine lv_iconst (v := 2) hx hb d_Mod_isUsed_27 (by decide) ?_
          refine lv_idiv hx hb d_Mod_isUsed_28 (by decide) ?_
          refine lv_topi (fun f_6 ef_6 => ?_)
          refine lv_icmp_ne (tgt := 36) hx hb d_Mod_isUsed_29 (by decide) (fun c_7 => ?_) (fun c_7 => ?_)
          · skip
            refine lv_iconst (v := 0) hx hb d_Mod_isUsed_36 (by decide) ?_
            exact J _ _ (by subst ef_3 ef_4 ef_5 ef_6; simp only [if_pos c_2, if_neg c_7]) (lv_sub hl [0, 1, 2, 3] rfl)
          · skip
            refine lv_iconst (v := 1) hx hb d_Mod_isUsed_32 (by decide) ?_
            refine lv_goto (tgt := 37) hx hb d_Mod_isUsed_33 (by decide) ?_
            exact J _ _ (by subst ef_3 ef_4 ef_5 ef_6; simp only [if_pos c_2, if_pos c_7]) (lv_sub hl [0, 1, 2, 3] rfl)
def r_Mod_isUsed (M : Nat → Nat → Int32) (k : Int32) : Int32 := q_Mod_isUsed M k 8 0 0
set_option maxHeartbeats 4000000 in
set_option maxRecDepth 100000 in
theorem k_Mod_isUsed (l : Launch) (D : va_G) (cA cZ cL : ClassId) (a : Nat) (d : Nat → Nat) (M : Nat → Nat → Int32) (k : Int32) (hk : vp_in k 7) : MetR l y_Mod_isUsed (Cond.code y_Mod_isUsed c_Mod_isUsed 4 (some .boolean) :: base) ({ frames := 0, cells := 0, slots := 0, locals := 0 } : Room) D cls (tys3 cA cZ cL) ([.ref a, .int k]) (wMod cA cZ a d M) (r_Mod_isUsed M k) := by
  refine Met.ofW (cc := c_Mod_isUsed) (maxL := 4) (ret := (some .boolean)) (by decide) rfl ?_
  intro p e s m args below meth c s₁ B hml hv
  obtain ⟨rfl, hP, hK, hZ⟩ := hv
  have hx := B.exec
  have hb := B.bytes
  have hr := B.returns
  have hts0 := atoms_spec (ws := (Cond.code y_Mod_isUsed c_Mod_isUsed 4 (some .boolean) :: base)) B.pre
  have hts : ∀ w ∈ base, w.before _ s = true := fun w h => hts0 w (List.mem_cons_of_mem _ h)
  have hown : s.vm.findClass R_Mod = some m.cls := findClass_of_methodNamed B.named
  have hlocks := B.notSynchronized
  have hP : va_P D cls [(a, .inr (4, [.int (M 0 0), .int (M 0 1), .ref (d 1), .ref (d 2), .ref (d 3), .ref (d 4), .ref (d 5), .ref (d 6), .int (M 0 2), .int (M 0 3), .int (M 0 4), .int (M 0 5), .int (M 0 6), .int (M 0 7), .int (M 0 8), .ref (d 7), .int (M 0 9), .int (M 0 10), .int (M 0 11), .int (M 0 12), .ref (d 8), .ref (d 9), .ref (d 10), .ref (d 11), .ref (d 12), .ref (d 13), .int (M 0 13), .int (M 0 14), .int (M 0 15)])), (d 1, .inl (cA, 6, .inl (M 1))), (d 2, .inl (cA, 6, .inl (M 2))), (d 3, .inl (cA, 6, .inl (M 3))), (d 4, .inl (cA, 6, .inl (M 4))), (d 5, .inl (cA, 6, .inl (M 5))), (d 6, .inl (cA, 6, .inl (M 6))), (d 7, .inl (cA, 36, .inl (M 7))), (d 8, .inl (cA, 6, .inl (M 8))), (d 9, .inl (cA, 7, .inl (M 9))), (d 10, .inl (cA, 6, .inl (M 10))), (d 11, .inl (cA, 6, .inl (M 11))), (d 12, .inl (cA, 6, .inl (M 12))), (d 13, .inl (cZ, 6, .inl (M 13)))] s.heap := hP
  have hl := lv_entry ([.ref a, .int k]) (n := 4) (Nat.le_of_ble_eq_true rfl)
  rw [lg_entry_eq]
  generalize (lg_sl ([.ref a, .int k]) ++ List.replicate (4 - (lg_sl ([.ref a, .int k])).length) Slot.unset).toArray = ls at hl ⊢
  have hl : lv_has ls 4 [(0, .ref a), (1, .int k)] := hl
  refine lv_iconst (v := 0) hx hb d_Mod_isUsed_0 (by decide) ?_
  refine lv_istore_n (lv' := [(2, .int 0), (0, .ref a), (1, .int k)]) hx hb d_Mod_isUsed_1 rfl hl (by decide) rfl (fun ls hl => ?_)
  refine lv_iconst (v := 0) hx hb d_Mod_isUsed_2 (by decide) ?_
  refine lv_istore_n (lv' := [(3, .int 0), (2, .int 0), (0, .ref a), (1, .int k)]) hx hb d_Mod_isUsed_3 rfl hl (by decide) rfl (fun ls hl => ?_)
  have e9 : r_Mod_isUsed M k = q_Mod_isUsed M k 8 0 0 := by
    rfl
  rw [e9]
  exact (lp_Mod_isUsed a d M k hk hx hb hr hml hts hown hlocks hK hZ hP 8) 0 0 ⟨by decide, Or.inl rfl⟩ _ (lv_sub hl [0, 1, 2, 3] rfl)
