/-! the plan's methods -/
theorem in6_pred {k : Int32} (h : vp_in k 6) : -1 ≤ (k - 1).toInt ∧ (k - 1).toInt < 6 := by
  obtain ⟨i, hi, rfl⟩ := vp_in_of h (by decide)
  exact (by decide : ∀ i, i < 6 → -1 ≤ (nI i - 1).toInt ∧ (nI i - 1).toInt < 6) i hi
theorem in6_dec {k : Int32} (h : vp_in k 6) : (k + (-1)).toInt = k.toInt - 1 := by
  obtain ⟨i, hi, rfl⟩ := vp_in_of h (by decide)
  exact (by decide : ∀ i, i < 6 → (nI i + (-1)).toInt = (nI i).toInt - 1) i hi
theorem in_of {x : Int32} {n : Nat} (h : ¬ x < 0) (h2 : x.toInt < n) : vp_in x n := by
  rw [vp_in_iff]
  exact ⟨by rw [Int32.lt_iff_toInt_lt] at h; simpa using h, h2⟩
def r_Plan_costOf (S P : Nat → Nat → Int32) (k : Int32) : Int32 := let f_1 : Int32 := P 10 k.toNatClampNeg; let f_2 : Int32 := P 8 k.toNatClampNeg; let f_3 : Int32 := f_2 * (S 0 6); let f_4 : Int32 := f_1 + f_3; let f_5 : Int32 := P 9 k.toNatClampNeg; let f_6 : Int32 := f_5 * (S 0 7); let f_7 : Int32 := f_4 + f_6; f_7
set_option maxHeartbeats 4000000 in
set_option maxRecDepth 100000 in
theorem k_Plan_costOf (l : Launch) (D : va_G) (cA cZ cL : ClassId) (a : Nat) (d : Nat → Nat) (b : Nat) (g : Nat → Nat) (S P : Nat → Nat → Int32) (k : Int32) (hk : vp_in k 7) : MetR l y_Plan_costOf (Cond.code y_Plan_costOf c_Plan_costOf 2 (some .int) :: base) ({ frames := 0, cells := 0, slots := 0, locals := 0 } : Room) D cls (tys3 cA cZ cL) ([.ref a, .int k]) (wPlan cA a d b P ++ wShop cA b g S) (r_Plan_costOf S P k) := by
  refine Met.ofW (cc := c_Plan_costOf) (maxL := 2) (ret := (some .int)) (by decide) rfl ?_
  intro p e s m args below meth c s₁ B hml hv
  obtain ⟨rfl, hP, hK, hZ⟩ := hv
  have hx := B.exec
  have hb := B.bytes
  have hr := B.returns
  have hts0 := atoms_spec (ws := (Cond.code y_Plan_costOf c_Plan_costOf 2 (some .int) :: base)) B.pre
  have hts : ∀ w ∈ base, w.before _ s = true := fun w h => hts0 w (List.mem_cons_of_mem _ h)
  have hown : s.vm.findClass R_Plan = some m.cls := findClass_of_methodNamed B.named
  have hlocks := B.notSynchronized
  have hP : va_P D cls [(a, .inr (0, [.ref b, .ref (d 0), .ref (d 1), .ref (d 2), .ref (d 3), .ref (d 4), .ref (d 5), .ref (d 6), .ref (d 7), .ref (d 8), .ref (d 9), .ref (d 10)])), (d 0, .inl (cA, 6, .inl (P 0))), (d 1, .inl (cA, 6, .inl (P 1))), (d 2, .inl (cA, 6, .inl (P 2))), (d 3, .inl (cA, 6, .inl (P 3))), (d 4, .inl (cA, 6, .inl (P 4))), (d 5, .inl (cA, 6, .inl (P 5))), (d 6, .inl (cA, 6, .inl (P 6))), (d 7, .inl (cA, 6, .inl (P 7))), (d 8, .inl (cA, 7, .inl (P 8))), (d 9, .inl (cA, 7, .inl (P 9))), (d 10, .inl (cA, 7, .inl (P 10))), (b, .inr (2, [.int (S 0 0), .ref (g 1), .ref (g 2), .ref (g 3), .ref (g 4), .ref (g 5), .ref (g 6), .int (S 0 1), .int (S 0 2), .int (S 0 3), .int (S 0 4), .int (S 0 5), .int (S 0 6), .int (S 0 7), .ref (g 7)])), (g 1, .inl (cA, 6, .inl (S 1))), (g 2, .inl (cA, 6, .inl (S 2))), (g 3, .inl (cA, 6, .inl (S 3))), (g 4, .inl (cA, 6, .inl (S 4))), (g 5, .inl (cA, 6, .inl (S 5))), (g 6, .inl (cA, 6, .inl (S 6))), (g 7, .inl (cA, 36, .inl (S 7)))] s.heap := hP
  have hl := lv_entry ([.ref a, .int k]) (n := 2) (Nat.le_of_ble_eq_true rfl)
  rw [lg_entry_eq]
  generalize (lg_sl ([.ref a, .int k]) ++ List.replicate (2 - (lg_sl ([.ref a, .int k])).length) Slot.unset).toArray = ls at hl ⊢
  have hl : lv_has ls 2 [(0, .ref a), (1, .int k)] := hl
  refine lv_aload_n hx hb d_Plan_costOf_0 rfl (lv_at hl 0 rfl) ?_
  refine va_get (D := D) (ci := 0) (v := .ref (d 10)) (C := R_Plan) (T := T_Plan) (N := 12) hx hb hts i_Plan hown hK hP 0 rfl rfl 11 (by decide) (hts _ mb_131) (fun _ h9 => h9) rfl d_Plan_costOf_1 ?_
  refine lv_iload_n hx hb d_Plan_costOf_4 rfl (lv_at hl 1 rfl) ?_
  refine va_iald hx hb hK hP 11 0 rfl rfl hk d_Plan_costOf_5 ?_
  refine lv_topi (fun f_1 ef_1 => ?_)
  refine lv_aload_n hx hb d_Plan_costOf_6 rfl (lv_at hl 0 rfl) ?_
  refine va_get (D := D) (ci := 0) (v := .ref (d 8)) (C := R_Plan) (T := T_Plan) (N := 12) hx hb hts i_Plan hown hK hP 0 rfl rfl 9 (by decide) (hts _ mb_127) (fun _ h9 => h9) rfl d_Plan_costOf_7 ?_
  refine lv_iload_n hx hb d_Plan_costOf_10 rfl (lv_at hl 1 rfl) ?_
  refine va_iald hx hb hK hP 9 0 rfl rfl hk d_Plan_costOf_11 ?_
  refine lv_topi (fun f_2 ef_2 => ?_)
  refine lv_aload_n hx hb d_Plan_costOf_12 rfl (lv_at hl 0 rfl) ?_
  refine va_get (D := D) (ci := 0) (v := .ref b) (C := R_Plan) (T := T_Plan) (N := 12) hx hb hts i_Plan hown hK hP 0 rfl rfl 0 (by decide) (hts _ mb_111) (fun _ h9 => h9) rfl d_Plan_costOf_13 ?_
  refine va_get (D := D) (ci := 2) (v := .int (S 0 6)) (C := R_Shop) (T := T_Shop) (N := 15) hx hb hts i_Shop hown hK hP 12 rfl rfl 12 (by decide) (hts _ mb_60) (fun _ h9 => h9) rfl d_Plan_costOf_16 ?_
  refine lv_imul hx hb d_Plan_costOf_19 ?_
  refine lv_topi (fun f_3 ef_3 => ?_)
  refine lv_iadd hx hb d_Plan_costOf_20 ?_
  refine lv_topi (fun f_4 ef_4 => ?_)
  refine lv_aload_n hx hb d_Plan_costOf_21 rfl (lv_at hl 0 rfl) ?_
  refine va_get (D := D) (ci := 0) (v := .ref (d 9)) (C := R_Plan) (T := T_Plan) (N := 12) hx hb hts i_Plan hown hK hP 0 rfl rfl 10 (by decide) (hts _ mb_129) (fun _ h9 => h9) rfl d_Plan_costOf_22 ?_
  refine lv_iload_n hx hb d_Plan_costOf_25 rfl (lv_at hl 1 rfl) ?_
  refine va_iald hx hb hK hP 10 0 rfl rfl hk d_Plan_costOf_26 ?_
  refine lv_topi (fun f_5 ef_5 => ?_)
  refine lv_aload_n hx hb d_Plan_costOf_27 rfl (lv_at hl 0 rfl) ?_
  refine va_get (D := D) (ci := 0) (v := .ref b) (C := R_Plan) (T := T_Plan) (N := 12) hx hb hts i_Plan hown hK hP 0 rfl rfl 0 (by decide) (hts _ mb_111) (fun _ h9 => h9) rfl d_Plan_costOf_28 ?_
  refine va_get (D := D) (ci := 2) (v := .int (S 0 7)) (C := R_Shop) (T := T_Shop) (N := 15) hx hb hts i_Shop hown hK hP 12 rfl rfl 13 (by decide) (hts _ mb_63) (fun _ h9 => h9) rfl d_Plan_costOf_31 ?_
  refine lv_imul hx hb d_Plan_costOf_34 ?_
  refine lv_topi (fun f_6 ef_6 => ?_)
  refine lv_iadd hx hb d_Plan_costOf_35 ?_
  refine lv_topi (fun f_7 ef_7 => ?_)
  have e9 : r_Plan_costOf S P k = f_7 := by
    subst ef_1 ef_2 ef_3 ef_4 ef_5 ef_6 ef_7; rfl
  exact W.iret (v := f_7) hx hb hr (fun t ht _ => ⟨_, rfl, e9.symm, ht⟩) (fun _ h => by cases h) d_Plan_costOf_36
def q_Plan_latestOn (S P : Nat → Nat → Int32) (q k : Int32) : Nat → Int32 → Int32
  | 0, _ => 0
  | n + 1, j => if j < 0 then ((-1)) else (let f_2 : Int32 := P 1 j.toNatClampNeg; if f_2 = q then (j) else (let x_4 : Int32 := j + (-1); q_Plan_latestOn S P q k n x_4))
set_option maxHeartbeats 4000000 in
set_option maxRecDepth 100000 in
theorem lp_Plan_latestOn {l : Launch} {D : va_G} {cA cZ cL : ClassId} (a : Nat) (d : Nat → Nat) (b : Nat) (g : Nat → Nat) (S P : Nat → Nat → Int32) (q k : Int32) (hk : vp_in k 6) {p : Program} {e : Env} {s : State} {m : MethodId} {args : Array Value} {below : List Frame} {meth : Method} {c : Code} (hx : p.tables.exec = Jvm.exec) (hb : c.code = c_Plan_latestOn) (hr : meth.sig.returnType = (some .int)) (hml : c.maxLocals = 4) (hts : ∀ w ∈ base, w.before args s = true) (hown : s.vm.findClass R_Plan = some m.cls) (hlocks : meth.locks = false) (hK : va_K D cls (tys3 cA cZ cL) s) (hZ : hz s) (hP : va_P D cls [(a, .inr (0, [.ref b, .ref (d 0), .ref (d 1), .ref (d 2), .ref (d 3), .ref (d 4), .ref (d 5), .ref (d 6), .ref (d 7), .ref (d 8), .ref (d 9), .ref (d 10)])), (d 0, .inl (cA, 6, .inl (P 0))), (d 1, .inl (cA, 6, .inl (P 1))), (d 2, .inl (cA, 6, .inl (P 2))), (d 3, .inl (cA, 6, .inl (P 3))), (d 4, .inl (cA, 6, .inl (P 4))), (d 5, .inl (cA, 6, .inl (P 5))), (d 6, .inl (cA, 6, .inl (P 6))), (d 7, .inl (cA, 6, .inl (P 7))), (d 8, .inl (cA, 7, .inl (P 8))), (d 9, .inl (cA, 7, .inl (P 9))), (d 10, .inl (cA, 7, .inl (P 10))), (b, .inr (2, [.int (S 0 0), .ref (g 1), .ref (g 2), .ref (g 3), .ref (g 4), .ref (g 5), .ref (g 6), .int (S 0 1), .int (S 0 2), .int (S 0 3), .int (S 0 4), .int (S 0 5), .int (S 0 6), .int (S 0 7), .ref (g 7)])), (g 1, .inl (cA, 6, .inl (S 1))), (g 2, .inl (cA, 6, .inl (S 2))), (g 3, .inl (cA, 6, .inl (S 3))), (g 4, .inl (cA, 6, .inl (S 4))), (g 5, .inl (cA, 6, .inl (S 5))), (g 6, .inl (cA, 6, .inl (S 6))), (g 7, .inl (cA, 36, .inl (S 7)))] s.heap) :
    ∀ (n : Nat) (j : Int32), (-1 ≤ j.toInt ∧ j.toInt < 6 ∧ j.toInt + 1 < (n : Int)) → ∀ ls : Array Slot, lv_has ls 4 [(3, .int j), (0, .ref a), (1, .int q), (2, .int k)] → W p l e ({ frames := 0, cells := 0, slots := 0, locals := 0 } : Room) s m args below meth c s.heap [] 0 0 (MQ below (vp_Si (fun r => r = q_Plan_latestOn S P q k n j)) args s 0 0 (fun _ => False)) (F0 m 4 ls []) := by
  intro n
  induction n with
  | zero =>
    intro j hi
    exact absurd hi (by omega)
  | succ n ih =>
    intro j hi ls hl
    refine lv_iload_n hx hb d_Plan_latestOn_4 rfl (lv_at hl 0 rfl) ?_
    refine lv_if_lt (tgt := 26) hx hb d_Plan_latestOn_5 (by decide) (fun c_1 => ?_) (fun c_1 => ?_)
    · skip
      refine lv_iconst (v := (-1)) hx hb d_Plan_latestOn_26 (by decide) ?_
      have e9 : q_Plan_latestOn S P q k (n + 1) j = (-1) := by
        rw [q_Plan_latestOn]; simp only [if_pos c_1]
      exact W.iret (v := (-1)) hx hb hr (fun t ht _ => ⟨_, rfl, e9.symm, ht⟩) (fun _ h => by cases h) d_Plan_latestOn_27
    · skip
      have hj : vp_in j 6 := in_of c_1 hi.2.1
      refine lv_aload_n hx hb d_Plan_latestOn_8 rfl (lv_at hl 1 rfl) ?_
      refine va_get (D := D) (ci := 0) (v := .ref (d 1)) (C := R_Plan) (T := T_Plan) (N := 12) hx hb hts i_Plan hown hK hP 0 rfl rfl 2 (by decide) (hts _ mb_114) (fun _ h9 => h9) rfl d_Plan_latestOn_9 ?_
      refine lv_iload_n hx hb d_Plan_latestOn_12 rfl (lv_at hl 0 rfl) ?_
      refine va_iald hx hb hK hP 2 0 rfl rfl hj d_Plan_latestOn_13 ?_
      refine lv_topi (fun f_2 ef_2 => ?_)
      refine lv_iload_n hx hb d_Plan_latestOn_14 rfl (lv_at hl 2 rfl) ?_
      refine lv_icmp_ne (tgt := 20) hx hb d_Plan_latestOn_15 (by decide) (fun c_3 => ?_) (fun c_3 => ?_)
      · skip
        obtain ⟨x_4, ex_4⟩ : ∃ y : Int32, y = j + (-1) := ⟨_, rfl⟩
        refine lv_iinc (v := x_4) (lv' := [(3, .int x_4), (0, .ref a), (1, .int q), (2, .int k)]) hx hb d_Plan_latestOn_20 hl (k := 0) rfl (by rw [ex_4]; rfl) (by decide) rfl (fun ls hl => ?_)
        refine lv_goto (tgt := 4) hx hb d_Plan_latestOn_23 (by decide) ?_
        have e9 : q_Plan_latestOn S P q k (n + 1) j = q_Plan_latestOn S P q k n x_4 := by
          subst ef_2 ex_4; rw [q_Plan_latestOn]; simp only [if_neg c_1, if_neg c_3]
        rw [e9]
        exact ih x_4 (by have h9 := in6_dec hj; have h8 := vp_in_iff.mp hj; rw [ex_4]; omega) _ (lv_sub hl [0, 1, 2, 3] rfl)
      · skip
        refine lv_iload_n hx hb d_Plan_latestOn_18 rfl (lv_at hl 0 rfl) ?_
        have e9 : q_Plan_latestOn S P q k (n + 1) j = j := by
          subst ef_2; rw [q_Plan_latestOn]; simp only [if_neg c_1, if_pos c_3]
        exact W.iret (v := j) hx hb hr (fun t ht _ => ⟨_, rfl, e9.symm, ht⟩) (fun _ h => by cases h) d_Plan_latestOn_19
def r_Plan_latestOn (S P : Nat → Nat → Int32) (q k : Int32) : Int32 := let f_1 : Int32 := k - 1; q_Plan_latestOn S P q k 8 f_1
set_option maxHeartbeats 4000000 in
set_option maxRecDepth 100000 in
theorem k_Plan_latestOn (l : Launch) (D : va_G) (cA cZ cL : ClassId) (a : Nat) (d : Nat → Nat) (b : Nat) (g : Nat → Nat) (S P : Nat → Nat → Int32) (q k : Int32) (hk : vp_in k 6) : MetR l y_Plan_latestOn (Cond.code y_Plan_latestOn c_Plan_latestOn 4 (some .int) :: base) ({ frames := 0, cells := 0, slots := 0, locals := 0 } : Room) D cls (tys3 cA cZ cL) ([.ref a, .int q, .int k]) (wPlan cA a d b P ++ wShop cA b g S) (r_Plan_latestOn S P q k) := by
  refine Met.ofW (cc := c_Plan_latestOn) (maxL := 4) (ret := (some .int)) (by decide) rfl ?_
  intro p e s m args below meth c s₁ B hml hv
  obtain ⟨rfl, hP, hK, hZ⟩ := hv
  have hx := B.exec
  have hb := B.bytes
  have hr := B.returns
  have hts0 := atoms_spec (ws := (Cond.code y_Plan_latestOn c_Plan_latestOn 4 (some .int) :: base)) B.pre
  have hts : ∀ w ∈ base, w.before _ s = true := fun w h => hts0 w (List.mem_cons_of_mem _ h)
  have hown : s.vm.findClass R_Plan = some m.cls := findClass_of_methodNamed B.named
  have hlocks := B.notSynchronized
  have hP : va_P D cls [(a, .inr (0, [.ref b, .ref (d 0), .ref (d 1), .ref (d 2), .ref (d 3), .ref (d 4), .ref (d 5), .ref (d 6), .ref (d 7), .ref (d 8), .ref (d 9), .ref (d 10)])), (d 0, .inl (cA, 6, .inl (P 0))), (d 1, .inl (cA, 6, .inl (P 1))), (d 2, .inl (cA, 6, .inl (P 2))), (d 3, .inl (cA, 6, .inl (P 3))), (d 4, .inl (cA, 6, .inl (P 4))), (d 5, .inl (cA, 6, .inl (P 5))), (d 6, .inl (cA, 6, .inl (P 6))), (d 7, .inl (cA, 6, .inl (P 7))), (d 8, .inl (cA, 7, .inl (P 8))), (d 9, .inl (cA, 7, .inl (P 9))), (d 10, .inl (cA, 7, .inl (P 10))), (b, .inr (2, [.int (S 0 0), .ref (g 1), .ref (g 2), .ref (g 3), .ref (g 4), .ref (g 5), .ref (g 6), .int (S 0 1), .int (S 0 2), .int (S 0 3), .int (S 0 4), .int (S 0 5), .int (S 0 6), .int (S 0 7), .ref (g 7)])), (g 1, .inl (cA, 6, .inl (S 1))), (g 2, .inl (cA, 6, .inl (S 2))), (g 3, .inl (cA, 6, .inl (S 3))), (g 4, .inl (cA, 6, .inl (S 4))), (g 5, .inl (cA, 6, .inl (S 5))), (g 6, .inl (cA, 6, .inl (S 6))), (g 7, .inl (cA, 36, .inl (S 7)))] s.heap := hP
  have hl := lv_entry ([.ref a, .int q, .int k]) (n := 4) (Nat.le_of_ble_eq_true rfl)
  rw [lg_entry_eq]
  generalize (lg_sl ([.ref a, .int q, .int k]) ++ List.replicate (4 - (lg_sl ([.ref a, .int q, .int k])).length) Slot.unset).toArray = ls at hl ⊢
  have hl : lv_has ls 4 [(0, .ref a), (1, .int q), (2, .int k)] := hl
  refine lv_iload_n hx hb d_Plan_latestOn_0 rfl (lv_at hl 2 rfl) ?_
  refine lv_iconst (v := 1) hx hb d_Plan_latestOn_1 (by decide) ?_
  refine lv_isub hx hb d_Plan_latestOn_2 ?_
  refine lv_topi (fun f_1 ef_1 => ?_)
  refine lv_istore_n (lv' := [(3, .int f_1), (0, .ref a), (1, .int q), (2, .int k)]) hx hb d_Plan_latestOn_3 rfl hl (by decide) rfl (fun ls hl => ?_)
  have e9 : r_Plan_latestOn S P q k = q_Plan_latestOn S P q k 8 f_1 := by
    subst ef_1; rfl
  rw [e9]
  exact (lp_Plan_latestOn a d b g S P q k hk hx hb hr hml hts hown hlocks hK hZ hP 8) f_1 (by rw [ef_1]; have h9 := in6_pred hk; omega) _ (lv_sub hl [0, 1, 2, 3] rfl)
def r_Plan_goesOn (S P : Nat → Nat → Int32) (q k : Int32) : Int32 := let f_1 : Int32 := P 0 q.toNatClampNeg; let f_2 : Int32 := S 2 f_1.toNatClampNeg; let f_3 : Int32 := P 0 k.toNatClampNeg; let f_4 : Int32 := S 2 f_3.toNatClampNeg; let f_5 : Int32 := f_2 - f_4; let f_6 : Int32 := if 0 ≤ f_5 then f_5 else 0 - f_5; if S 0 5 < f_6 then (0) else (let f_8 : Int32 := P 7 q.toNatClampNeg; if S 0 4 ≤ f_8 then (0) else (let f_10 : Int32 := P 3 k.toNatClampNeg; let f_11 : Int32 := P 5 q.toNatClampNeg; let f_12 : Int32 := f_10 - f_11; if S 0 3 < f_12 then (0) else (1)))
set_option maxHeartbeats 4000000 in
set_option maxRecDepth 100000 in
theorem k_Plan_goesOn (l : Launch) (D : va_G) (cA cZ cL : ClassId) (a : Nat) (d : Nat → Nat) (b : Nat) (g : Nat → Nat) (S P : Nat → Nat → Int32) (q k : Int32) (hp : ∀ j, vp_in (P 0 j) 6) (hq : vp_in q 6) (hk : vp_in k 6) : MetR l y_Plan_goesOn (Cond.code y_Plan_goesOn c_Plan_goesOn 4 (some .boolean) :: base) ({ frames := 1, cells := 0, slots := 0, locals := 21 } : Room) D cls (tys3 cA cZ cL) ([.ref a, .int q, .int k]) (wPlan cA a d b P ++ wShop cA b g S) (r_Plan_goesOn S P q k) := by
  refine Met.ofW (cc := c_Plan_goesOn) (maxL := 4) (ret := (some .boolean)) (by decide) rfl ?_
  intro p e s m args below meth c s₁ B hml hv
  obtain ⟨rfl, hP, hK, hZ⟩ := hv
  have hx := B.exec
  have hb := B.bytes
  have hr := B.returns
  have hts0 := atoms_spec (ws := (Cond.code y_Plan_goesOn c_Plan_goesOn 4 (some .boolean) :: base)) B.pre
  have hts : ∀ w ∈ base, w.before _ s = true := fun w h => hts0 w (List.mem_cons_of_mem _ h)
  have hown : s.vm.findClass R_Plan = some m.cls := findClass_of_methodNamed B.named
  have hlocks := B.notSynchronized
  have hP : va_P D cls [(a, .inr (0, [.ref b, .ref (d 0), .ref (d 1), .ref (d 2), .ref (d 3), .ref (d 4), .ref (d 5), .ref (d 6), .ref (d 7), .ref (d 8), .ref (d 9), .ref (d 10)])), (d 0, .inl (cA, 6, .inl (P 0))), (d 1, .inl (cA, 6, .inl (P 1))), (d 2, .inl (cA, 6, .inl (P 2))), (d 3, .inl (cA, 6, .inl (P 3))), (d 4, .inl (cA, 6, .inl (P 4))), (d 5, .inl (cA, 6, .inl (P 5))), (d 6, .inl (cA, 6, .inl (P 6))), (d 7, .inl (cA, 6, .inl (P 7))), (d 8, .inl (cA, 7, .inl (P 8))), (d 9, .inl (cA, 7, .inl (P 9))), (d 10, .inl (cA, 7, .inl (P 10))), (b, .inr (2, [.int (S 0 0), .ref (g 1), .ref (g 2), .ref (g 3), .ref (g 4), .ref (g 5), .ref (g 6), .int (S 0 1), .int (S 0 2), .int (S 0 3), .int (S 0 4), .int (S 0 5), .int (S 0 6), .int (S 0 7), .ref (g 7)])), (g 1, .inl (cA, 6, .inl (S 1))), (g 2, .inl (cA, 6, .inl (S 2))), (g 3, .inl (cA, 6, .inl (S 3))), (g 4, .inl (cA, 6, .inl (S 4))), (g 5, .inl (cA, 6, .inl (S 5))), (g 6, .inl (cA, 6, .inl (S 6))), (g 7, .inl (cA, 36, .inl (S 7)))] s.heap := hP
  have hl := lv_entry ([.ref a, .int q, .int k]) (n := 4) (Nat.le_of_ble_eq_true rfl)
  rw [lg_entry_eq]
  generalize (lg_sl ([.ref a, .int q, .int k]) ++ List.replicate (4 - (lg_sl ([.ref a, .int q, .int k])).length) Slot.unset).toArray = ls at hl ⊢
  have hl : lv_has ls 4 [(0, .ref a), (1, .int q), (2, .int k)] := hl
  refine lv_aload_n hx hb d_Plan_goesOn_0 rfl (lv_at hl 0 rfl) ?_
  refine va_get (D := D) (ci := 0) (v := .ref b) (C := R_Plan) (T := T_Plan) (N := 12) hx hb hts i_Plan hown hK hP 0 rfl rfl 0 (by decide) (hts _ mb_111) (fun _ h9 => h9) rfl d_Plan_goesOn_1 ?_
  refine va_get (D := D) (ci := 2) (v := .ref (g 2)) (C := R_Shop) (T := T_Shop) (N := 15) hx hb hts i_Shop hown hK hP 12 rfl rfl 2 (by decide) (hts _ mb_34) (fun _ h9 => h9) rfl d_Plan_goesOn_4 ?_
  refine lv_aload_n hx hb d_Plan_goesOn_7 rfl (lv_at hl 0 rfl) ?_
  refine va_get (D := D) (ci := 0) (v := .ref (d 0)) (C := R_Plan) (T := T_Plan) (N := 12) hx hb hts i_Plan hown hK hP 0 rfl rfl 1 (by decide) (hts _ mb_112) (fun _ h9 => h9) rfl d_Plan_goesOn_8 ?_
  refine lv_iload_n hx hb d_Plan_goesOn_11 rfl (lv_at hl 1 rfl) ?_
  refine va_iald hx hb hK hP 1 0 rfl rfl hq d_Plan_goesOn_12 ?_
  refine lv_topi (fun f_1 ef_1 => ?_)
  refine va_iald hx hb hK hP 14 0 rfl rfl (by rw [ef_1]; exact hp _) d_Plan_goesOn_13 ?_
  refine lv_topi (fun f_2 ef_2 => ?_)
  refine lv_aload_n hx hb d_Plan_goesOn_14 rfl (lv_at hl 0 rfl) ?_
  refine va_get (D := D) (ci := 0) (v := .ref b) (C := R_Plan) (T := T_Plan) (N := 12) hx hb hts i_Plan hown hK hP 0 rfl rfl 0 (by decide) (hts _ mb_111) (fun _ h9 => h9) rfl d_Plan_goesOn_15 ?_
  refine va_get (D := D) (ci := 2) (v := .ref (g 2)) (C := R_Shop) (T := T_Shop) (N := 15) hx hb hts i_Shop hown hK hP 12 rfl rfl 2 (by decide) (hts _ mb_34) (fun _ h9 => h9) rfl d_Plan_goesOn_18 ?_
  refine lv_aload_n hx hb d_Plan_goesOn_21 rfl (lv_at hl 0 rfl) ?_
  refine va_get (D := D) (ci := 0) (v := .ref (d 0)) (C := R_Plan) (T := T_Plan) (N := 12) hx hb hts i_Plan hown hK hP 0 rfl rfl 1 (by decide) (hts _ mb_112) (fun _ h9 => h9) rfl d_Plan_goesOn_22 ?_
  refine lv_iload_n hx hb d_Plan_goesOn_25 rfl (lv_at hl 2 rfl) ?_
  refine va_iald hx hb hK hP 1 0 rfl rfl hk d_Plan_goesOn_26 ?_
  refine lv_topi (fun f_3 ef_3 => ?_)
  refine va_iald hx hb hK hP 14 0 rfl rfl (by rw [ef_3]; exact hp _) d_Plan_goesOn_27 ?_
  refine lv_topi (fun f_4 ef_4 => ?_)
  refine lv_isub hx hb d_Plan_goesOn_28 ?_
  refine lv_topi (fun f_5 ef_5 => ?_)
  refine va_mabs hx hb (hml.trans hl.1.symm) hown (hts _ mb_260) (hts _ mb_261) (hts _ mb_12) (hts _ mb_262) (Nat.le_of_ble_eq_true rfl) (Nat.le_of_ble_eq_true rfl) (Nat.zero_le _) (Nat.zero_le _) d_Plan_goesOn_29 ?_
  refine lv_topi (fun f_6 ef_6 => ?_)
  refine lv_istore_n (lv' := [(3, .int f_6), (0, .ref a), (1, .int q), (2, .int k)]) hx hb d_Plan_goesOn_32 rfl hl (by decide) rfl (fun ls hl => ?_)
  refine lv_iload_n hx hb d_Plan_goesOn_33 rfl (lv_at hl 0 rfl) ?_
  refine lv_aload_n hx hb d_Plan_goesOn_34 rfl (lv_at hl 1 rfl) ?_
  refine va_get (D := D) (ci := 0) (v := .ref b) (C := R_Plan) (T := T_Plan) (N := 12) hx hb hts i_Plan hown hK hP 0 rfl rfl 0 (by decide) (hts _ mb_111) (fun _ h9 => h9) rfl d_Plan_goesOn_35 ?_
  refine va_get (D := D) (ci := 2) (v := .int (S 0 5)) (C := R_Shop) (T := T_Shop) (N := 15) hx hb hts i_Shop hown hK hP 12 rfl rfl 11 (by decide) (hts _ mb_58) (fun _ h9 => h9) rfl d_Plan_goesOn_38 ?_
  refine lv_icmp_gt (tgt := 87) hx hb d_Plan_goesOn_41 (by decide) (fun c_7 => ?_) (fun c_7 => ?_)
  · skip
    refine lv_iconst (v := 0) hx hb d_Plan_goesOn_87 (by decide) ?_
    have e9 : r_Plan_goesOn S P q k = 0 := by
      subst ef_1 ef_2 ef_3 ef_4 ef_5 ef_6; unfold r_Plan_goesOn; simp only [if_pos c_7]
    exact W.zret (v := 0) hx hb hr rfl (fun t ht _ => ⟨_, rfl, e9.symm, ht⟩) (fun _ h => by cases h) d_Plan_goesOn_88
  · skip
    refine lv_aload_n hx hb d_Plan_goesOn_44 rfl (lv_at hl 1 rfl) ?_
    refine va_get (D := D) (ci := 0) (v := .ref (d 7)) (C := R_Plan) (T := T_Plan) (N := 12) hx hb hts i_Plan hown hK hP 0 rfl rfl 8 (by decide) (hts _ mb_126) (fun _ h9 => h9) rfl d_Plan_goesOn_45 ?_
    refine lv_iload_n hx hb d_Plan_goesOn_48 rfl (lv_at hl 2 rfl) ?_
    refine va_iald hx hb hK hP 8 0 rfl rfl hq d_Plan_goesOn_49 ?_
    refine lv_topi (fun f_8 ef_8 => ?_)
    refine lv_aload_n hx hb d_Plan_goesOn_50 rfl (lv_at hl 1 rfl) ?_
    refine va_get (D := D) (ci := 0) (v := .ref b) (C := R_Plan) (T := T_Plan) (N := 12) hx hb hts i_Plan hown hK hP 0 rfl rfl 0 (by decide) (hts _ mb_111) (fun _ h9 => h9) rfl d_Plan_goesOn_51 ?_
    refine va_get (D := D) (ci := 2) (v := .int (S 0 4)) (C := R_Shop) (T := T_Shop) (N := 15) hx hb hts i_Shop hown hK hP 12 rfl rfl 10 (by decide) (hts _ mb_55) (fun _ h9 => h9) rfl d_Plan_goesOn_54 ?_
    refine lv_icmp_ge (tgt := 87) hx hb d_Plan_goesOn_57 (by decide) (fun c_9 => ?_) (fun c_9 => ?_)
    · skip
      refine lv_iconst (v := 0) hx hb d_Plan_goesOn_87 (by decide) ?_
      have e9 : r_Plan_goesOn S P q k = 0 := by
        subst ef_1 ef_2 ef_3 ef_4 ef_5 ef_6 ef_8; unfold r_Plan_goesOn; simp only [if_neg c_7, if_pos c_9]
      exact W.zret (v := 0) hx hb hr rfl (fun t ht _ => ⟨_, rfl, e9.symm, ht⟩) (fun _ h => by cases h) d_Plan_goesOn_88
    · skip
      refine lv_aload_n hx hb d_Plan_goesOn_60 rfl (lv_at hl 1 rfl) ?_
      refine va_get (D := D) (ci := 0) (v := .ref (d 3)) (C := R_Plan) (T := T_Plan) (N := 12) hx hb hts i_Plan hown hK hP 0 rfl rfl 4 (by decide) (hts _ mb_118) (fun _ h9 => h9) rfl d_Plan_goesOn_61 ?_
      refine lv_iload_n hx hb d_Plan_goesOn_64 rfl (lv_at hl 3 rfl) ?_
      refine va_iald hx hb hK hP 4 0 rfl rfl hk d_Plan_goesOn_65 ?_
      refine lv_topi (fun f_10 ef_10 => ?_)
      refine lv_aload_n hx hb d_Plan_goesOn_66 rfl (lv_at hl 1 rfl) ?_
      refine va_get (D := D) (ci := 0) (v := .ref (d 5)) (C := R_Plan) (T := T_Plan) (N := 12) hx hb hts i_Plan hown hK hP 0 rfl rfl 6 (by decide) (hts _ mb_122) (fun _ h9 => h9) rfl d_Plan_goesOn_67 ?_
      refine lv_iload_n hx hb d_Plan_goesOn_70 rfl (lv_at hl 2 rfl) ?_
      refine va_iald hx hb hK hP 6 0 rfl rfl hq d_Plan_goesOn_71 ?_
      refine lv_topi (fun f_11 ef_11 => ?_)
      refine lv_isub hx hb d_Plan_goesOn_72 ?_
      refine lv_topi (fun f_12 ef_12 => ?_)
      refine lv_aload_n hx hb d_Plan_goesOn_73 rfl (lv_at hl 1 rfl) ?_
      refine va_get (D := D) (ci := 0) (v := .ref b) (C := R_Plan) (T := T_Plan) (N := 12) hx hb hts i_Plan hown hK hP 0 rfl rfl 0 (by decide) (hts _ mb_111) (fun _ h9 => h9) rfl d_Plan_goesOn_74 ?_
      refine va_get (D := D) (ci := 2) (v := .int (S 0 3)) (C := R_Shop) (T := T_Shop) (N := 15) hx hb hts i_Shop hown hK hP 12 rfl rfl 9 (by decide) (hts _ mb_52) (fun _ h9 => h9) rfl d_Plan_goesOn_77 ?_
      refine lv_icmp_gt (tgt := 87) hx hb d_Plan_goesOn_80 (by decide) (fun c_13 => ?_) (fun c_13 => ?_)
      · skip
        refine lv_iconst (v := 0) hx hb d_Plan_goesOn_87 (by decide) ?_
        have e9 : r_Plan_goesOn S P q k = 0 := by
          subst ef_1 ef_2 ef_3 ef_4 ef_5 ef_6 ef_8 ef_10 ef_11 ef_12; unfold r_Plan_goesOn; simp only [if_neg c_7, if_neg c_9, if_pos c_13]
        exact W.zret (v := 0) hx hb hr rfl (fun t ht _ => ⟨_, rfl, e9.symm, ht⟩) (fun _ h => by cases h) d_Plan_goesOn_88
      · skip
        refine lv_iconst (v := 1) hx hb d_Plan_goesOn_83 (by decide) ?_
        refine lv_goto (tgt := 88) hx hb d_Plan_goesOn_84 (by decide) ?_
        have e9 : r_Plan_goesOn S P q k = 1 := by
          subst ef_1 ef_2 ef_3 ef_4 ef_5 ef_6 ef_8 ef_10 ef_11 ef_12; unfold r_Plan_goesOn; simp only [if_neg c_7, if_neg c_9, if_neg c_13]
        exact W.zret (v := 1) hx hb hr rfl (fun t ht _ => ⟨_, rfl, e9.symm, ht⟩) (fun _ h => by cases h) d_Plan_goesOn_88
def r_Plan_castStep (S P : Nat → Nat → Int32) (k q : Int32) : Nat → Nat → Int32 := if q = (-1) then (let f_7 : Int32 := P 3 k.toNatClampNeg; let f_8 : Int32 := if f_7 < 0 then 0 else f_7; let f_9 : Int32 := upd (P 4) k.toNatClampNeg f_8 k.toNatClampNeg; let f_10 : Int32 := P 0 k.toNatClampNeg; let f_11 : Int32 := S 4 f_10.toNatClampNeg; let f_12 : Int32 := f_9 + f_11; let f_13 : Int32 := k + 1; let f_14 : Int32 := P 8 k.toNatClampNeg; let f_15 : Int32 := upd (P 6) k.toNatClampNeg 0 k.toNatClampNeg; let f_16 : Int32 := f_14 + f_15; let f_17 : Int32 := k + 1; let f_18 : Int32 := P 9 k.toNatClampNeg; let f_19 : Int32 := P 0 k.toNatClampNeg; let f_20 : Int32 := upd (P 5) k.toNatClampNeg f_12 k.toNatClampNeg; let f_21 : Int32 := r_Shop_lateMinutes S f_19 f_20; let f_22 : Int32 := f_18 + f_21; let f_23 : Int32 := k + 1; let f_24 : Int32 := P 10 k.toNatClampNeg; let f_26 : Int32 := f_24 + 0; (tb [P 0, P 1, P 2, P 3, upd (P 4) k.toNatClampNeg f_8, upd (P 5) k.toNatClampNeg f_12, upd (P 6) k.toNatClampNeg 0, upd (P 7) k.toNatClampNeg 1, upd (P 8) f_13.toNatClampNeg f_16, upd (P 9) f_17.toNatClampNeg f_22, upd (P 10) f_23.toNatClampNeg f_26])) else (let f_28 : Int32 := P 0 q.toNatClampNeg; let f_29 : Int32 := P 0 k.toNatClampNeg; let f_30 : Int32 := r_Shop_moveBetween S f_28 f_29; if f_30 = (-1) then (let f_36 : Int32 := P 5 q.toNatClampNeg; let f_37 : Int32 := upd (P 6) k.toNatClampNeg 1 k.toNatClampNeg; let f_38 : Int32 := f_37 * (S 0 2); let f_39 : Int32 := f_36 + f_38; let f_40 : Int32 := P 3 k.toNatClampNeg; let f_41 : Int32 := if f_40 < f_39 then f_39 else f_40; let f_42 : Int32 := upd (P 4) k.toNatClampNeg f_41 k.toNatClampNeg; let f_43 : Int32 := P 0 k.toNatClampNeg; let f_44 : Int32 := S 4 f_43.toNatClampNeg; let f_45 : Int32 := f_42 + f_44; let f_46 : Int32 := k + 1; let f_47 : Int32 := P 8 k.toNatClampNeg; let f_48 : Int32 := upd (P 6) k.toNatClampNeg 1 k.toNatClampNeg; let f_49 : Int32 := f_47 + f_48; let f_50 : Int32 := k + 1; let f_51 : Int32 := P 9 k.toNatClampNeg; let f_52 : Int32 := P 0 k.toNatClampNeg; let f_53 : Int32 := upd (P 5) k.toNatClampNeg f_45 k.toNatClampNeg; let f_54 : Int32 := r_Shop_lateMinutes S f_52 f_53; let f_55 : Int32 := f_51 + f_54; let f_56 : Int32 := k + 1; let f_57 : Int32 := P 10 k.toNatClampNeg; let f_59 : Int32 := f_57 + 0; (tb [P 0, P 1, P 2, P 3, upd (P 4) k.toNatClampNeg f_41, upd (P 5) k.toNatClampNeg f_45, upd (P 6) k.toNatClampNeg 1, upd (P 7) k.toNatClampNeg 1, upd (P 8) f_46.toNatClampNeg f_49, upd (P 9) f_50.toNatClampNeg f_55, upd (P 10) f_56.toNatClampNeg f_59])) else (let f_60 : Int32 := r_Plan_goesOn S P q k; if f_60 = 0 then (let f_66 : Int32 := P 5 q.toNatClampNeg; let f_67 : Int32 := upd (P 6) k.toNatClampNeg 1 k.toNatClampNeg; let f_68 : Int32 := f_67 * (S 0 2); let f_69 : Int32 := f_66 + f_68; let f_70 : Int32 := P 3 k.toNatClampNeg; let f_71 : Int32 := if f_70 < f_69 then f_69 else f_70; let f_72 : Int32 := upd (P 4) k.toNatClampNeg f_71 k.toNatClampNeg; let f_73 : Int32 := P 0 k.toNatClampNeg; let f_74 : Int32 := S 4 f_73.toNatClampNeg; let f_75 : Int32 := f_72 + f_74; let f_76 : Int32 := k + 1; let f_77 : Int32 := P 8 k.toNatClampNeg; let f_78 : Int32 := upd (P 6) k.toNatClampNeg 1 k.toNatClampNeg; let f_79 : Int32 := f_77 + f_78; let f_80 : Int32 := k + 1; let f_81 : Int32 := P 9 k.toNatClampNeg; let f_82 : Int32 := P 0 k.toNatClampNeg; let f_83 : Int32 := upd (P 5) k.toNatClampNeg f_75 k.toNatClampNeg; let f_84 : Int32 := r_Shop_lateMinutes S f_82 f_83; let f_85 : Int32 := f_81 + f_84; let f_86 : Int32 := k + 1; let f_87 : Int32 := P 10 k.toNatClampNeg; let f_89 : Int32 := f_87 + 0; (tb [P 0, P 1, P 2, P 3, upd (P 4) k.toNatClampNeg f_71, upd (P 5) k.toNatClampNeg f_75, upd (P 6) k.toNatClampNeg 1, upd (P 7) k.toNatClampNeg 1, upd (P 8) f_76.toNatClampNeg f_79, upd (P 9) f_80.toNatClampNeg f_85, upd (P 10) f_86.toNatClampNeg f_89])) else (let f_93 : Int32 := P 7 q.toNatClampNeg; let f_94 : Int32 := f_93 + 1; let f_96 : Int32 := P 5 q.toNatClampNeg; let f_97 : Int32 := upd (P 6) k.toNatClampNeg 0 k.toNatClampNeg; let f_98 : Int32 := f_97 * (S 0 2); let f_99 : Int32 := f_96 + f_98; let f_100 : Int32 := P 3 k.toNatClampNeg; let f_101 : Int32 := if f_100 < f_99 then f_99 else f_100; let f_102 : Int32 := upd (P 4) k.toNatClampNeg f_101 k.toNatClampNeg; let f_103 : Int32 := P 0 k.toNatClampNeg; let f_104 : Int32 := S 4 f_103.toNatClampNeg; let f_105 : Int32 := f_102 + f_104; let f_106 : Int32 := k + 1; let f_107 : Int32 := P 8 k.toNatClampNeg; let f_108 : Int32 := upd (P 6) k.toNatClampNeg 0 k.toNatClampNeg; let f_109 : Int32 := f_107 + f_108; let f_110 : Int32 := k + 1; let f_111 : Int32 := P 9 k.toNatClampNeg; let f_112 : Int32 := P 0 k.toNatClampNeg; let f_113 : Int32 := upd (P 5) k.toNatClampNeg f_105 k.toNatClampNeg; let f_114 : Int32 := r_Shop_lateMinutes S f_112 f_113; let f_115 : Int32 := f_111 + f_114; let f_116 : Int32 := k + 1; let f_117 : Int32 := P 10 k.toNatClampNeg; let f_119 : Int32 := f_117 + f_30; (tb [P 0, P 1, P 2, P 3, upd (P 4) k.toNatClampNeg f_101, upd (P 5) k.toNatClampNeg f_105, upd (P 6) k.toNatClampNeg 0, upd (P 7) k.toNatClampNeg f_94, upd (P 8) f_106.toNatClampNeg f_109, upd (P 9) f_110.toNatClampNeg f_115, upd (P 10) f_116.toNatClampNeg f_119]))))
set_option maxHeartbeats 4000000 in
set_option maxRecDepth 100000 in
theorem k_Plan_castStep (l : Launch) (D : va_G) (cA cZ cL : ClassId) (a : Nat) (d : Nat → Nat) (b : Nat) (g : Nat → Nat) (S P : Nat → Nat → Int32) (k q : Int32) (hG : ∀ j, vp_in (S 1 j) 6) (hp : ∀ j, vp_in (P 0 j) 6) (hk : vp_in k 6) (hq : q = -1 ∨ vp_in q 6) : MetV l y_Plan_castStep (Cond.code y_Plan_castStep c_Plan_castStep 7 none :: base) ({ frames := 2, cells := 0, slots := 0, locals := 44 } : Room) D cls (tys3 cA cZ cL) ([.ref a, .int k, .int q]) (wPlan cA a d b P ++ wShop cA b g S) (wPlan cA a d b (r_Plan_castStep S P k q) ++ wShop cA b g S) := by
  intro sz
  refine Met.ofW (cc := c_Plan_castStep) (maxL := 7) (ret := none) (by decide) rfl ?_
  intro p e s m args below meth c s₁ B hml hv
  obtain ⟨rfl, hsz, hP, hK, hZ, hD0⟩ := hv
  have hx := B.exec
  have hb := B.bytes
  have hr := B.returns
  have hts0 := atoms_spec (ws := (Cond.code y_Plan_castStep c_Plan_castStep 7 none :: base)) B.pre
  have hts : ∀ w ∈ base, w.before _ s = true := fun w h => hts0 w (List.mem_cons_of_mem _ h)
  have hown : s.vm.findClass R_Plan = some m.cls := findClass_of_methodNamed B.named
  have hlocks := B.notSynchronized
  have hP : va_P D cls [(a, .inr (0, [.ref b, .ref (d 0), .ref (d 1), .ref (d 2), .ref (d 3), .ref (d 4), .ref (d 5), .ref (d 6), .ref (d 7), .ref (d 8), .ref (d 9), .ref (d 10)])), (d 0, .inl (cA, 6, .inl (P 0))), (d 1, .inl (cA, 6, .inl (P 1))), (d 2, .inl (cA, 6, .inl (P 2))), (d 3, .inl (cA, 6, .inl (P 3))), (d 4, .inl (cA, 6, .inl (P 4))), (d 5, .inl (cA, 6, .inl (P 5))), (d 6, .inl (cA, 6, .inl (P 6))), (d 7, .inl (cA, 6, .inl (P 7))), (d 8, .inl (cA, 7, .inl (P 8))), (d 9, .inl (cA, 7, .inl (P 9))), (d 10, .inl (cA, 7, .inl (P 10))), (b, .inr (2, [.int (S 0 0), .ref (g 1), .ref (g 2), .ref (g 3), .ref (g 4), .ref (g 5), .ref (g 6), .int (S 0 1), .int (S 0 2), .int (S 0 3), .int (S 0 4), .int (S 0 5), .int (S 0 6), .int (S 0 7), .ref (g 7)])), (g 1, .inl (cA, 6, .inl (S 1))), (g 2, .inl (cA, 6, .inl (S 2))), (g 3, .inl (cA, 6, .inl (S 3))), (g 4, .inl (cA, 6, .inl (S 4))), (g 5, .inl (cA, 6, .inl (S 5))), (g 6, .inl (cA, 6, .inl (S 6))), (g 7, .inl (cA, 36, .inl (S 7)))] s.heap := hP
  subst hsz
  have hD := hD0.self (sz := s.heap.size)
  generalize hAe : va_A (wPlan cA a d b P ++ wShop cA b g S) s.heap.size = A at hD ⊢
  have hA : ∀ q : Nat, s.heap.size ≤ q → A q := fun q h => by rw [← hAe]; exact Or.inr h
  have hS : va_S A s.heap s.heap [] := va_S.rf
  have hD : va_D A [(a, .inr (0, [.ref b, .ref (d 0), .ref (d 1), .ref (d 2), .ref (d 3), .ref (d 4), .ref (d 5), .ref (d 6), .ref (d 7), .ref (d 8), .ref (d 9), .ref (d 10)])), (d 0, .inl (cA, 6, .inl (P 0))), (d 1, .inl (cA, 6, .inl (P 1))), (d 2, .inl (cA, 6, .inl (P 2))), (d 3, .inl (cA, 6, .inl (P 3))), (d 4, .inl (cA, 6, .inl (P 4))), (d 5, .inl (cA, 6, .inl (P 5))), (d 6, .inl (cA, 6, .inl (P 6))), (d 7, .inl (cA, 6, .inl (P 7))), (d 8, .inl (cA, 7, .inl (P 8))), (d 9, .inl (cA, 7, .inl (P 9))), (d 10, .inl (cA, 7, .inl (P 10))), (b, .inr (2, [.int (S 0 0), .ref (g 1), .ref (g 2), .ref (g 3), .ref (g 4), .ref (g 5), .ref (g 6), .int (S 0 1), .int (S 0 2), .int (S 0 3), .int (S 0 4), .int (S 0 5), .int (S 0 6), .int (S 0 7), .ref (g 7)])), (g 1, .inl (cA, 6, .inl (S 1))), (g 2, .inl (cA, 6, .inl (S 2))), (g 3, .inl (cA, 6, .inl (S 3))), (g 4, .inl (cA, 6, .inl (S 4))), (g 5, .inl (cA, 6, .inl (S 5))), (g 6, .inl (cA, 6, .inl (S 6))), (g 7, .inl (cA, 36, .inl (S 7)))] := hD
  have hl := lv_entry ([.ref a, .int k, .int q]) (n := 7) (Nat.le_of_ble_eq_true rfl)
  rw [lg_entry_eq]
  generalize (lg_sl ([.ref a, .int k, .int q]) ++ List.replicate (7 - (lg_sl ([.ref a, .int k, .int q])).length) Slot.unset).toArray = ls at hl ⊢
  have hl : lv_has ls 7 [(0, .ref a), (1, .int k), (2, .int q)] := hl
  refine lv_iload_n hx hb d_Plan_castStep_0 rfl (lv_at hl 2 rfl) ?_
  refine lv_iconst (v := (-1)) hx hb d_Plan_castStep_1 (by decide) ?_
  refine lv_icmp_eq (tgt := 9) hx hb d_Plan_castStep_2 (by decide) (fun c_1 => ?_) (fun c_1 => ?_)
  · skip
    refine lv_iconst (v := 0) hx hb d_Plan_castStep_9 (by decide) ?_
    refine lv_istore_n (lv' := [(3, .int 0), (0, .ref a), (1, .int k), (2, .int q)]) hx hb d_Plan_castStep_10 rfl hl (by decide) rfl (fun ls hl => ?_)
    refine lv_iload_n hx hb d_Plan_castStep_11 rfl (lv_at hl 0 rfl) ?_
    refine lv_if_eq (tgt := 37) hx hb d_Plan_castStep_12 (by decide) (fun c_2 => ?_) (fun c_2 => ?_)
    · skip
      refine lv_iconst (v := (-1)) hx hb d_Plan_castStep_37 (by decide) ?_
      refine lv_istore (lv' := [(4, .int (-1)), (3, .int 0), (0, .ref a), (1, .int k), (2, .int q)]) hx hb d_Plan_castStep_38 hl (by decide) rfl (fun ls hl => ?_)
      refine lv_iload hx hb d_Plan_castStep_40 (lv_at hl 0 rfl) ?_
      refine lv_iconst (v := (-1)) hx hb d_Plan_castStep_42 (by decide) ?_
      refine lv_icmp_eq (tgt := 59) hx hb d_Plan_castStep_43 (by decide) (fun c_3 => ?_) (fun c_3 => ?_)
      · skip
        refine lv_iconst (v := 0) hx hb d_Plan_castStep_59 (by decide) ?_
        refine lv_istore (lv' := [(5, .int 0), (4, .int (-1)), (3, .int 0), (0, .ref a), (1, .int k), (2, .int q)]) hx hb d_Plan_castStep_60 hl (by decide) rfl (fun ls hl => ?_)
        refine lv_aload_n hx hb d_Plan_castStep_62 rfl (lv_at hl 3 rfl) ?_
        refine va_get (D := D) (ci := 0) (v := .ref (d 6)) (C := R_Plan) (T := T_Plan) (N := 12) hx hb hts i_Plan hown hK hP 0 rfl rfl 7 (by decide) (hts _ mb_124) (fun _ h9 => h9) rfl d_Plan_castStep_63 ?_
        refine lv_iload_n hx hb d_Plan_castStep_66 rfl (lv_at hl 4 rfl) ?_
        refine lv_iload_n hx hb d_Plan_castStep_67 rfl (lv_at hl 2 rfl) ?_
        refine lv_if_eq (tgt := 80) hx hb d_Plan_castStep_68 (by decide) (fun c_4 => ?_) (fun c_4 => ?_)
        · skip
          refine lv_iconst (v := 0) hx hb d_Plan_castStep_80 (by decide) ?_
          refine va_iast hx hb hK hP hD hS 7 0 rfl rfl hk d_Plan_castStep_81 (fun H locs hP hD hS => ?_)
          have hP : va_P D cls [(a, .inr (0, [.ref b, .ref (d 0), .ref (d 1), .ref (d 2), .ref (d 3), .ref (d 4), .ref (d 5), .ref (d 6), .ref (d 7), .ref (d 8), .ref (d 9), .ref (d 10)])), (d 0, .inl (cA, 6, .inl (P 0))), (d 1, .inl (cA, 6, .inl (P 1))), (d 2, .inl (cA, 6, .inl (P 2))), (d 3, .inl (cA, 6, .inl (P 3))), (d 4, .inl (cA, 6, .inl (P 4))), (d 5, .inl (cA, 6, .inl (P 5))), (d 6, .inl (cA, 6, .inl (upd (P 6) k.toNatClampNeg 0))), (d 7, .inl (cA, 6, .inl (P 7))), (d 8, .inl (cA, 7, .inl (P 8))), (d 9, .inl (cA, 7, .inl (P 9))), (d 10, .inl (cA, 7, .inl (P 10))), (b, .inr (2, [.int (S 0 0), .ref (g 1), .ref (g 2), .ref (g 3), .ref (g 4), .ref (g 5), .ref (g 6), .int (S 0 1), .int (S 0 2), .int (S 0 3), .int (S 0 4), .int (S 0 5), .int (S 0 6), .int (S 0 7), .ref (g 7)])), (g 1, .inl (cA, 6, .inl (S 1))), (g 2, .inl (cA, 6, .inl (S 2))), (g 3, .inl (cA, 6, .inl (S 3))), (g 4, .inl (cA, 6, .inl (S 4))), (g 5, .inl (cA, 6, .inl (S 5))), (g 6, .inl (cA, 6, .inl (S 6))), (g 7, .inl (cA, 36, .inl (S 7)))] H := hP
          have hD : va_D A [(a, .inr (0, [.ref b, .ref (d 0), .ref (d 1), .ref (d 2), .ref (d 3), .ref (d 4), .ref (d 5), .ref (d 6), .ref (d 7), .ref (d 8), .ref (d 9), .ref (d 10)])), (d 0, .inl (cA, 6, .inl (P 0))), (d 1, .inl (cA, 6, .inl (P 1))), (d 2, .inl (cA, 6, .inl (P 2))), (d 3, .inl (cA, 6, .inl (P 3))), (d 4, .inl (cA, 6, .inl (P 4))), (d 5, .inl (cA, 6, .inl (P 5))), (d 6, .inl (cA, 6, .inl (upd (P 6) k.toNatClampNeg 0))), (d 7, .inl (cA, 6, .inl (P 7))), (d 8, .inl (cA, 7, .inl (P 8))), (d 9, .inl (cA, 7, .inl (P 9))), (d 10, .inl (cA, 7, .inl (P 10))), (b, .inr (2, [.int (S 0 0), .ref (g 1), .ref (g 2), .ref (g 3), .ref (g 4), .ref (g 5), .ref (g 6), .int (S 0 1), .int (S 0 2), .int (S 0 3), .int (S 0 4), .int (S 0 5), .int (S 0 6), .int (S 0 7), .ref (g 7)])), (g 1, .inl (cA, 6, .inl (S 1))), (g 2, .inl (cA, 6, .inl (S 2))), (g 3, .inl (cA, 6, .inl (S 3))), (g 4, .inl (cA, 6, .inl (S 4))), (g 5, .inl (cA, 6, .inl (S 5))), (g 6, .inl (cA, 6, .inl (S 6))), (g 7, .inl (cA, 36, .inl (S 7)))] := hD
          refine lv_aload_n hx hb d_Plan_castStep_82 rfl (lv_at hl 3 rfl) ?_
          refine va_get (D := D) (ci := 0) (v := .ref (d 7)) (C := R_Plan) (T := T_Plan) (N := 12) hx hb hts i_Plan hown hK hP 0 rfl rfl 8 (by decide) (hts _ mb_126) (fun _ h9 => h9) rfl d_Plan_castStep_83 ?_
          refine lv_iload_n hx hb d_Plan_castStep_86 rfl (lv_at hl 4 rfl) ?_
          refine lv_iload hx hb d_Plan_castStep_87 (lv_at hl 0 rfl) ?_
          refine lv_if_eq (tgt := 103) hx hb d_Plan_castStep_89 (by decide) (fun c_5 => ?_) (fun c_5 => ?_)
          · skip
            refine lv_iconst (v := 1) hx hb d_Plan_castStep_103 (by decide) ?_
            refine va_iast hx hb hK hP hD hS 8 0 rfl rfl hk d_Plan_castStep_104 (fun H locs hP hD hS => ?_)
            have hP : va_P D cls [(a, .inr (0, [.ref b, .ref (d 0), .ref (d 1), .ref (d 2), .ref (d 3), .ref (d 4), .ref (d 5), .ref (d 6), .ref (d 7), .ref (d 8), .ref (d 9), .ref (d 10)])), (d 0, .inl (cA, 6, .inl (P 0))), (d 1, .inl (cA, 6, .inl (P 1))), (d 2, .inl (cA, 6, .inl (P 2))), (d 3, .inl (cA, 6, .inl (P 3))), (d 4, .inl (cA, 6, .inl (P 4))), (d 5, .inl (cA, 6, .inl (P 5))), (d 6, .inl (cA, 6, .inl (upd (P 6) k.toNatClampNeg 0))), (d 7, .inl (cA, 6, .inl (upd (P 7) k.toNatClampNeg 1))), (d 8, .inl (cA, 7, .inl (P 8))), (d 9, .inl (cA, 7, .inl (P 9))), (d 10, .inl (cA, 7, .inl (P 10))), (b, .inr (2, [.int (S 0 0), .ref (g 1), .ref (g 2), .ref (g 3), .ref (g 4), .ref (g 5), .ref (g 6), .int (S 0 1), .int (S 0 2), .int (S 0 3), .int (S 0 4), .int (S 0 5), .int (S 0 6), .int (S 0 7), .ref (g 7)])), (g 1, .inl (cA, 6, .inl (S 1))), (g 2, .inl (cA, 6, .inl (S 2))), (g 3, .inl (cA, 6, .inl (S 3))), (g 4, .inl (cA, 6, .inl (S 4))), (g 5, .inl (cA, 6, .inl (S 5))), (g 6, .inl (cA, 6, .inl (S 6))), (g 7, .inl (cA, 36, .inl (S 7)))] H := hP
            have hD : va_D A [(a, .inr (0, [.ref b, .ref (d 0), .ref (d 1), .ref (d 2), .ref (d 3), .ref (d 4), .ref (d 5), .ref (d 6), .ref (d 7), .ref (d 8), .ref (d 9), .ref (d 10)])), (d 0, .inl (cA, 6, .inl (P 0))), (d 1, .inl (cA, 6, .inl (P 1))), (d 2, .inl (cA, 6, .inl (P 2))), (d 3, .inl (cA, 6, .inl (P 3))), (d 4, .inl (cA, 6, .inl (P 4))), (d 5, .inl (cA, 6, .inl (P 5))), (d 6, .inl (cA, 6, .inl (upd (P 6) k.toNatClampNeg 0))), (d 7, .inl (cA, 6, .inl (upd (P 7) k.toNatClampNeg 1))), (d 8, .inl (cA, 7, .inl (P 8))), (d 9, .inl (cA, 7, .inl (P 9))), (d 10, .inl (cA, 7, .inl (P 10))), (b, .inr (2, [.int (S 0 0), .ref (g 1), .ref (g 2), .ref (g 3), .ref (g 4), .ref (g 5), .ref (g 6), .int (S 0 1), .int (S 0 2), .int (S 0 3), .int (S 0 4), .int (S 0 5), .int (S 0 6), .int (S 0 7), .ref (g 7)])), (g 1, .inl (cA, 6, .inl (S 1))), (g 2, .inl (cA, 6, .inl (S 2))), (g 3, .inl (cA, 6, .inl (S 3))), (g 4, .inl (cA, 6, .inl (S 4))), (g 5, .inl (cA, 6, .inl (S 5))), (g 6, .inl (cA, 6, .inl (S 6))), (g 7, .inl (cA, 36, .inl (S 7)))] := hD
            refine lv_iload_n hx hb d_Plan_castStep_105 rfl (lv_at hl 2 rfl) ?_
            refine lv_if_eq (tgt := 133) hx hb d_Plan_castStep_106 (by decide) (fun c_6 => ?_) (fun c_6 => ?_)
            · skip
              refine lv_iconst (v := 0) hx hb d_Plan_castStep_133 (by decide) ?_
              refine lv_istore (lv' := [(6, .int 0), (5, .int 0), (4, .int (-1)), (3, .int 0), (0, .ref a), (1, .int k), (2, .int q)]) hx hb d_Plan_castStep_134 hl (by decide) rfl (fun ls hl => ?_)
              refine lv_aload_n hx hb d_Plan_castStep_136 rfl (lv_at hl 4 rfl) ?_
              refine va_get (D := D) (ci := 0) (v := .ref (d 4)) (C := R_Plan) (T := T_Plan) (N := 12) hx hb hts i_Plan hown hK hP 0 rfl rfl 5 (by decide) (hts _ mb_120) (fun _ h9 => h9) rfl d_Plan_castStep_137 ?_
              refine lv_iload_n hx hb d_Plan_castStep_140 rfl (lv_at hl 5 rfl) ?_
              refine lv_aload_n hx hb d_Plan_castStep_141 rfl (lv_at hl 4 rfl) ?_
              refine va_get (D := D) (ci := 0) (v := .ref (d 3)) (C := R_Plan) (T := T_Plan) (N := 12) hx hb hts i_Plan hown hK hP 0 rfl rfl 4 (by decide) (hts _ mb_118) (fun _ h9 => h9) rfl d_Plan_castStep_142 ?_
              refine lv_iload_n hx hb d_Plan_castStep_145 rfl (lv_at hl 5 rfl) ?_
              refine va_iald hx hb hK hP 4 0 rfl rfl hk d_Plan_castStep_146 ?_
              refine lv_topi (fun f_7 ef_7 => ?_)
              refine lv_iload hx hb d_Plan_castStep_147 (lv_at hl 0 rfl) ?_
              refine va_mmax hx hb (hml.trans hl.1.symm) hown (hts _ mb_263) (hts _ mb_215) (hts _ mb_12) (hts _ mb_216) (Nat.le_of_ble_eq_true rfl) (Nat.le_of_ble_eq_true rfl) (Nat.zero_le _) (Nat.zero_le _) d_Plan_castStep_149 ?_
              refine lv_topi (fun f_8 ef_8 => ?_)
              refine va_iast hx hb hK hP hD hS 5 0 rfl rfl hk d_Plan_castStep_152 (fun H locs hP hD hS => ?_)
              have hP : va_P D cls [(a, .inr (0, [.ref b, .ref (d 0), .ref (d 1), .ref (d 2), .ref (d 3), .ref (d 4), .ref (d 5), .ref (d 6), .ref (d 7), .ref (d 8), .ref (d 9), .ref (d 10)])), (d 0, .inl (cA, 6, .inl (P 0))), (d 1, .inl (cA, 6, .inl (P 1))), (d 2, .inl (cA, 6, .inl (P 2))), (d 3, .inl (cA, 6, .inl (P 3))), (d 4, .inl (cA, 6, .inl (upd (P 4) k.toNatClampNeg f_8))), (d 5, .inl (cA, 6, .inl (P 5))), (d 6, .inl (cA, 6, .inl (upd (P 6) k.toNatClampNeg 0))), (d 7, .inl (cA, 6, .inl (upd (P 7) k.toNatClampNeg 1))), (d 8, .inl (cA, 7, .inl (P 8))), (d 9, .inl (cA, 7, .inl (P 9))), (d 10, .inl (cA, 7, .inl (P 10))), (b, .inr (2, [.int (S 0 0), .ref (g 1), .ref (g 2), .ref (g 3), .ref (g 4), .ref (g 5), .ref (g 6), .int (S 0 1), .int (S 0 2), .int (S 0 3), .int (S 0 4), .int (S 0 5), .int (S 0 6), .int (S 0 7), .ref (g 7)])), (g 1, .inl (cA, 6, .inl (S 1))), (g 2, .inl (cA, 6, .inl (S 2))), (g 3, .inl (cA, 6, .inl (S 3))), (g 4, .inl (cA, 6, .inl (S 4))), (g 5, .inl (cA, 6, .inl (S 5))), (g 6, .inl (cA, 6, .inl (S 6))), (g 7, .inl (cA, 36, .inl (S 7)))] H := hP
              have hD : va_D A [(a, .inr (0, [.ref b, .ref (d 0), .ref (d 1), .ref (d 2), .ref (d 3), .ref (d 4), .ref (d 5), .ref (d 6), .ref (d 7), .ref (d 8), .ref (d 9), .ref (d 10)])), (d 0, .inl (cA, 6, .inl (P 0))), (d 1, .inl (cA, 6, .inl (P 1))), (d 2, .inl (cA, 6, .inl (P 2))), (d 3, .inl (cA, 6, .inl (P 3))), (d 4, .inl (cA, 6, .inl (upd (P 4) k.toNatClampNeg f_8))), (d 5, .inl (cA, 6, .inl (P 5))), (d 6, .inl (cA, 6, .inl (upd (P 6) k.toNatClampNeg 0))), (d 7, .inl (cA, 6, .inl (upd (P 7) k.toNatClampNeg 1))), (d 8, .inl (cA, 7, .inl (P 8))), (d 9, .inl (cA, 7, .inl (P 9))), (d 10, .inl (cA, 7, .inl (P 10))), (b, .inr (2, [.int (S 0 0), .ref (g 1), .ref (g 2), .ref (g 3), .ref (g 4), .ref (g 5), .ref (g 6), .int (S 0 1), .int (S 0 2), .int (S 0 3), .int (S 0 4), .int (S 0 5), .int (S 0 6), .int (S 0 7), .ref (g 7)])), (g 1, .inl (cA, 6, .inl (S 1))), (g 2, .inl (cA, 6, .inl (S 2))), (g 3, .inl (cA, 6, .inl (S 3))), (g 4, .inl (cA, 6, .inl (S 4))), (g 5, .inl (cA, 6, .inl (S 5))), (g 6, .inl (cA, 6, .inl (S 6))), (g 7, .inl (cA, 36, .inl (S 7)))] := hD
              refine lv_aload_n hx hb d_Plan_castStep_153 rfl (lv_at hl 4 rfl) ?_
              refine va_get (D := D) (ci := 0) (v := .ref (d 5)) (C := R_Plan) (T := T_Plan) (N := 12) hx hb hts i_Plan hown hK hP 0 rfl rfl 6 (by decide) (hts _ mb_122) (fun _ h9 => h9) rfl d_Plan_castStep_154 ?_
              refine lv_iload_n hx hb d_Plan_castStep_157 rfl (lv_at hl 5 rfl) ?_
              refine lv_aload_n hx hb d_Plan_castStep_158 rfl (lv_at hl 4 rfl) ?_
              refine va_get (D := D) (ci := 0) (v := .ref (d 4)) (C := R_Plan) (T := T_Plan) (N := 12) hx hb hts i_Plan hown hK hP 0 rfl rfl 5 (by decide) (hts _ mb_120) (fun _ h9 => h9) rfl d_Plan_castStep_159 ?_
              refine lv_iload_n hx hb d_Plan_castStep_162 rfl (lv_at hl 5 rfl) ?_
              refine va_iald hx hb hK hP 5 0 rfl rfl hk d_Plan_castStep_163 ?_
              refine lv_topi (fun f_9 ef_9 => ?_)
              refine lv_aload_n hx hb d_Plan_castStep_164 rfl (lv_at hl 4 rfl) ?_
              refine va_get (D := D) (ci := 0) (v := .ref b) (C := R_Plan) (T := T_Plan) (N := 12) hx hb hts i_Plan hown hK hP 0 rfl rfl 0 (by decide) (hts _ mb_111) (fun _ h9 => h9) rfl d_Plan_castStep_165 ?_
              refine va_get (D := D) (ci := 2) (v := .ref (g 4)) (C := R_Shop) (T := T_Shop) (N := 15) hx hb hts i_Shop hown hK hP 12 rfl rfl 4 (by decide) (hts _ mb_39) (fun _ h9 => h9) rfl d_Plan_castStep_168 ?_
              refine lv_aload_n hx hb d_Plan_castStep_171 rfl (lv_at hl 4 rfl) ?_
              refine va_get (D := D) (ci := 0) (v := .ref (d 0)) (C := R_Plan) (T := T_Plan) (N := 12) hx hb hts i_Plan hown hK hP 0 rfl rfl 1 (by decide) (hts _ mb_112) (fun _ h9 => h9) rfl d_Plan_castStep_172 ?_
              refine lv_iload_n hx hb d_Plan_castStep_175 rfl (lv_at hl 5 rfl) ?_
              refine va_iald hx hb hK hP 1 0 rfl rfl hk d_Plan_castStep_176 ?_
              refine lv_topi (fun f_10 ef_10 => ?_)
              refine va_iald hx hb hK hP 16 0 rfl rfl (by rw [ef_10]; exact hp _) d_Plan_castStep_177 ?_
              refine lv_topi (fun f_11 ef_11 => ?_)
              refine lv_iadd hx hb d_Plan_castStep_178 ?_
              refine lv_topi (fun f_12 ef_12 => ?_)
              refine va_iast hx hb hK hP hD hS 6 0 rfl rfl hk d_Plan_castStep_179 (fun H locs hP hD hS => ?_)
              have hP : va_P D cls [(a, .inr (0, [.ref b, .ref (d 0), .ref (d 1), .ref (d 2), .ref (d 3), .ref (d 4), .ref (d 5), .ref (d 6), .ref (d 7), .ref (d 8), .ref (d 9), .ref (d 10)])), (d 0, .inl (cA, 6, .inl (P 0))), (d 1, .inl (cA, 6, .inl (P 1))), (d 2, .inl (cA, 6, .inl (P 2))), (d 3, .inl (cA, 6, .inl (P 3))), (d 4, .inl (cA, 6, .inl (upd (P 4) k.toNatClampNeg f_8))), (d 5, .inl (cA, 6, .inl (upd (P 5) k.toNatClampNeg f_12))), (d 6, .inl (cA, 6, .inl (upd (P 6) k.toNatClampNeg 0))), (d 7, .inl (cA, 6, .inl (upd (P 7) k.toNatClampNeg 1))), (d 8, .inl (cA, 7, .inl (P 8))), (d 9, .inl (cA, 7, .inl (P 9))), (d 10, .inl (cA, 7, .inl (P 10))), (b, .inr (2, [.int (S 0 0), .ref (g 1), .ref (g 2), .ref (g 3), .ref (g 4), .ref (g 5), .ref (g 6), .int (S 0 1), .int (S 0 2), .int (S 0 3), .int (S 0 4), .int (S 0 5), .int (S 0 6), .int (S 0 7), .ref (g 7)])), (g 1, .inl (cA, 6, .inl (S 1))), (g 2, .inl (cA, 6, .inl (S 2))), (g 3, .inl (cA, 6, .inl (S 3))), (g 4, .inl (cA, 6, .inl (S 4))), (g 5, .inl (cA, 6, .inl (S 5))), (g 6, .inl (cA, 6, .inl (S 6))), (g 7, .inl (cA, 36, .inl (S 7)))] H := hP
              have hD : va_D A [(a, .inr (0, [.ref b, .ref (d 0), .ref (d 1), .ref (d 2), .ref (d 3), .ref (d 4), .ref (d 5), .ref (d 6), .ref (d 7), .ref (d 8), .ref (d 9), .ref (d 10)])), (d 0, .inl (cA, 6, .inl (P 0))), (d 1, .inl (cA, 6, .inl (P 1))), (d 2, .inl (cA, 6, .inl (P 2))), (d 3, .inl (cA, 6, .inl (P 3))), (d 4, .inl (cA, 6, .inl (upd (P 4) k.toNatClampNeg f_8))), (d 5, .inl (cA, 6, .inl (upd (P 5) k.toNatClampNeg f_12))), (d 6, .inl (cA, 6, .inl (upd (P 6) k.toNatClampNeg 0))), (d 7, .inl (cA, 6, .inl (upd (P 7) k.toNatClampNeg 1))), (d 8, .inl (cA, 7, .inl (P 8))), (d 9, .inl (cA, 7, .inl (P 9))), (d 10, .inl (cA, 7, .inl (P 10))), (b, .inr (2, [.int (S 0 0), .ref (g 1), .ref (g 2), .ref (g 3), .ref (g 4), .ref (g 5), .ref (g 6), .int (S 0 1), .int (S 0 2), .int (S 0 3), .int (S 0 4), .int (S 0 5), .int (S 0 6), .int (S 0 7), .ref (g 7)])), (g 1, .inl (cA, 6, .inl (S 1))), (g 2, .inl (cA, 6, .inl (S 2))), (g 3, .inl (cA, 6, .inl (S 3))), (g 4, .inl (cA, 6, .inl (S 4))), (g 5, .inl (cA, 6, .inl (S 5))), (g 6, .inl (cA, 6, .inl (S 6))), (g 7, .inl (cA, 36, .inl (S 7)))] := hD
              refine lv_aload_n hx hb d_Plan_castStep_180 rfl (lv_at hl 4 rfl) ?_
              refine va_get (D := D) (ci := 0) (v := .ref (d 8)) (C := R_Plan) (T := T_Plan) (N := 12) hx hb hts i_Plan hown hK hP 0 rfl rfl 9 (by decide) (hts _ mb_127) (fun _ h9 => h9) rfl d_Plan_castStep_181 ?_
              refine lv_iload_n hx hb d_Plan_castStep_184 rfl (lv_at hl 5 rfl) ?_
              refine lv_iconst (v := 1) hx hb d_Plan_castStep_185 (by decide) ?_
              refine lv_iadd hx hb d_Plan_castStep_186 ?_
              refine lv_topi (fun f_13 ef_13 => ?_)
              refine lv_aload_n hx hb d_Plan_castStep_187 rfl (lv_at hl 4 rfl) ?_
              refine va_get (D := D) (ci := 0) (v := .ref (d 8)) (C := R_Plan) (T := T_Plan) (N := 12) hx hb hts i_Plan hown hK hP 0 rfl rfl 9 (by decide) (hts _ mb_127) (fun _ h9 => h9) rfl d_Plan_castStep_188 ?_
              refine lv_iload_n hx hb d_Plan_castStep_191 rfl (lv_at hl 5 rfl) ?_
              refine va_iald hx hb hK hP 9 0 rfl rfl (in_le hk (by decide)) d_Plan_castStep_192 ?_
              refine lv_topi (fun f_14 ef_14 => ?_)
              refine lv_aload_n hx hb d_Plan_castStep_193 rfl (lv_at hl 4 rfl) ?_
              refine va_get (D := D) (ci := 0) (v := .ref (d 6)) (C := R_Plan) (T := T_Plan) (N := 12) hx hb hts i_Plan hown hK hP 0 rfl rfl 7 (by decide) (hts _ mb_124) (fun _ h9 => h9) rfl d_Plan_castStep_194 ?_
              refine lv_iload_n hx hb d_Plan_castStep_197 rfl (lv_at hl 5 rfl) ?_
              refine va_iald hx hb hK hP 7 0 rfl rfl hk d_Plan_castStep_198 ?_
              refine lv_topi (fun f_15 ef_15 => ?_)
              refine lv_iadd hx hb d_Plan_castStep_199 ?_
              refine lv_topi (fun f_16 ef_16 => ?_)
              refine va_iast hx hb hK hP hD hS 9 0 rfl rfl (by rw [ef_13]; exact in_s hk (by decide)) d_Plan_castStep_200 (fun H locs hP hD hS => ?_)
              have hP : va_P D cls [(a, .inr (0, [.ref b, .ref (d 0), .ref (d 1), .ref (d 2), .ref (d 3), .ref (d 4), .ref (d 5), .ref (d 6), .ref (d 7), .ref (d 8), .ref (d 9), .ref (d 10)])), (d 0, .inl (cA, 6, .inl (P 0))), (d 1, .inl (cA, 6, .inl (P 1))), (d 2, .inl (cA, 6, .inl (P 2))), (d 3, .inl (cA, 6, .inl (P 3))), (d 4, .inl (cA, 6, .inl (upd (P 4) k.toNatClampNeg f_8))), (d 5, .inl (cA, 6, .inl (upd (P 5) k.toNatClampNeg f_12))), (d 6, .inl (cA, 6, .inl (upd (P 6) k.toNatClampNeg 0))), (d 7, .inl (cA, 6, .inl (upd (P 7) k.toNatClampNeg 1))), (d 8, .inl (cA, 7, .inl (upd (P 8) f_13.toNatClampNeg f_16))), (d 9, .inl (cA, 7, .inl (P 9))), (d 10, .inl (cA, 7, .inl (P 10))), (b, .inr (2, [.int (S 0 0), .ref (g 1), .ref (g 2), .ref (g 3), .ref (g 4), .ref (g 5), .ref (g 6), .int (S 0 1), .int (S 0 2), .int (S 0 3), .int (S 0 4), .int (S 0 5), .int (S 0 6), .int (S 0 7), .ref (g 7)])), (g 1, .inl (cA, 6, .inl (S 1))), (g 2, .inl (cA, 6, .inl (S 2))), (g 3, .inl (cA, 6, .inl (S 3))), (g 4, .inl (cA, 6, .inl (S 4))), (g 5, .inl (cA, 6, .inl (S 5))), (g 6, .inl (cA, 6, .inl (S 6))), (g 7, .inl (cA, 36, .inl (S 7)))] H := hP
              have hD : va_D A [(a, .inr (0, [.ref b, .ref (d 0), .ref (d 1), .ref (d 2), .ref (d 3), .ref (d 4), .ref (d 5), .ref (d 6), .ref (d 7), .ref (d 8), .ref (d 9), .ref (d 10)])), (d 0, .inl (cA, 6, .inl (P 0))), (d 1, .inl (cA, 6, .inl (P 1))), (d 2, .inl (cA, 6, .inl (P 2))), (d 3, .inl (cA, 6, .inl (P 3))), (d 4, .inl (cA, 6, .inl (upd (P 4) k.toNatClampNeg f_8))), (d 5, .inl (cA, 6, .inl (upd (P 5) k.toNatClampNeg f_12))), (d 6, .inl (cA, 6, .inl (upd (P 6) k.toNatClampNeg 0))), (d 7, .inl (cA, 6, .inl (upd (P 7) k.toNatClampNeg 1))), (d 8, .inl (cA, 7, .inl (upd (P 8) f_13.toNatClampNeg f_16))), (d 9, .inl (cA, 7, .inl (P 9))), (d 10, .inl (cA, 7, .inl (P 10))), (b, .inr (2, [.int (S 0 0), .ref (g 1), .ref (g 2), .ref (g 3), .ref (g 4), .ref (g 5), .ref (g 6), .int (S 0 1), .int (S 0 2), .int (S 0 3), .int (S 0 4), .int (S 0 5), .int (S 0 6), .int (S 0 7), .ref (g 7)])), (g 1, .inl (cA, 6, .inl (S 1))), (g 2, .inl (cA, 6, .inl (S 2))), (g 3, .inl (cA, 6, .inl (S 3))), (g 4, .inl (cA, 6, .inl (S 4))), (g 5, .inl (cA, 6, .inl (S 5))), (g 6, .inl (cA, 6, .inl (S 6))), (g 7, .inl (cA, 36, .inl (S 7)))] := hD
              refine lv_aload_n hx hb d_Plan_castStep_201 rfl (lv_at hl 4 rfl) ?_
              refine va_get (D := D) (ci := 0) (v := .ref (d 9)) (C := R_Plan) (T := T_Plan) (N := 12) hx hb hts i_Plan hown hK hP 0 rfl rfl 10 (by decide) (hts _ mb_129) (fun _ h9 => h9) rfl d_Plan_castStep_202 ?_
              refine lv_iload_n hx hb d_Plan_castStep_205 rfl (lv_at hl 5 rfl) ?_
              refine lv_iconst (v := 1) hx hb d_Plan_castStep_206 (by decide) ?_
              refine lv_iadd hx hb d_Plan_castStep_207 ?_
              refine lv_topi (fun f_17 ef_17 => ?_)
              refine lv_aload_n hx hb d_Plan_castStep_208 rfl (lv_at hl 4 rfl) ?_
              refine va_get (D := D) (ci := 0) (v := .ref (d 9)) (C := R_Plan) (T := T_Plan) (N := 12) hx hb hts i_Plan hown hK hP 0 rfl rfl 10 (by decide) (hts _ mb_129) (fun _ h9 => h9) rfl d_Plan_castStep_209 ?_
              refine lv_iload_n hx hb d_Plan_castStep_212 rfl (lv_at hl 5 rfl) ?_
              refine va_iald hx hb hK hP 10 0 rfl rfl (in_le hk (by decide)) d_Plan_castStep_213 ?_
              refine lv_topi (fun f_18 ef_18 => ?_)
              refine lv_aload_n hx hb d_Plan_castStep_214 rfl (lv_at hl 4 rfl) ?_
              refine va_get (D := D) (ci := 0) (v := .ref b) (C := R_Plan) (T := T_Plan) (N := 12) hx hb hts i_Plan hown hK hP 0 rfl rfl 0 (by decide) (hts _ mb_111) (fun _ h9 => h9) rfl d_Plan_castStep_215 ?_
              refine lv_aload_n hx hb d_Plan_castStep_218 rfl (lv_at hl 4 rfl) ?_
              refine va_get (D := D) (ci := 0) (v := .ref (d 0)) (C := R_Plan) (T := T_Plan) (N := 12) hx hb hts i_Plan hown hK hP 0 rfl rfl 1 (by decide) (hts _ mb_112) (fun _ h9 => h9) rfl d_Plan_castStep_219 ?_
              refine lv_iload_n hx hb d_Plan_castStep_222 rfl (lv_at hl 5 rfl) ?_
              refine va_iald hx hb hK hP 1 0 rfl rfl hk d_Plan_castStep_223 ?_
              refine lv_topi (fun f_19 ef_19 => ?_)
              refine lv_aload_n hx hb d_Plan_castStep_224 rfl (lv_at hl 4 rfl) ?_
              refine va_get (D := D) (ci := 0) (v := .ref (d 5)) (C := R_Plan) (T := T_Plan) (N := 12) hx hb hts i_Plan hown hK hP 0 rfl rfl 6 (by decide) (hts _ mb_122) (fun _ h9 => h9) rfl d_Plan_castStep_225 ?_
              refine lv_iload_n hx hb d_Plan_castStep_228 rfl (lv_at hl 5 rfl) ?_
              refine va_iald hx hb hK hP 6 0 rfl rfl hk d_Plan_castStep_229 ?_
              refine lv_topi (fun f_20 ef_20 => ?_)
              refine hr_callV (C := R_Shop) (T := T_Shop) (N := 15) (As := [.int f_19, .int f_20]) (rest := [.int f_18, .int f_17, .ref (d 9)]) ⟨hx, hb, hml, hown, hts⟩ (k_Shop_lateMinutes l D cA cZ cL b g S f_19 f_20 (by rw [ef_19]; exact hp _)) (bv_V 2 hts mb_213 (hts _ mb_2) (hts _ mb_264) (hts _ mb_211) (hts _ mb_212) (by decide +kernel) ⟨Nat.le_of_ble_eq_true rfl, Nat.le_of_ble_eq_true rfl⟩) hK hZ hP [12, 13, 14, 15, 16, 17, 18, 19] rfl 12 2 rfl rfl rfl hl.1 rfl (lv_room (Nat.le_of_ble_eq_true rfl)) d_Plan_castStep_230 ⟨Nat.zero_le _, Nat.zero_le _⟩ ?_
              refine lv_topi (fun f_21 ef_21 => ?_)
              refine lv_iadd hx hb d_Plan_castStep_233 ?_
              refine lv_topi (fun f_22 ef_22 => ?_)
              refine va_iast hx hb hK hP hD hS 10 0 rfl rfl (by rw [ef_17]; exact in_s hk (by decide)) d_Plan_castStep_234 (fun H locs hP hD hS => ?_)
              have hP : va_P D cls [(a, .inr (0, [.ref b, .ref (d 0), .ref (d 1), .ref (d 2), .ref (d 3), .ref (d 4), .ref (d 5), .ref (d 6), .ref (d 7), .ref (d 8), .ref (d 9), .ref (d 10)])), (d 0, .inl (cA, 6, .inl (P 0))), (d 1, .inl (cA, 6, .inl (P 1))), (d 2, .inl (cA, 6, .inl (P 2))), (d 3, .inl (cA, 6, .inl (P 3))), (d 4, .inl (cA, 6, .inl (upd (P 4) k.toNatClampNeg f_8))), (d 5, .inl (cA, 6, .inl (upd (P 5) k.toNatClampNeg f_12))), (d 6, .inl (cA, 6, .inl (upd (P 6) k.toNatClampNeg 0))), (d 7, .inl (cA, 6, .inl (upd (P 7) k.toNatClampNeg 1))), (d 8, .inl (cA, 7, .inl (upd (P 8) f_13.toNatClampNeg f_16))), (d 9, .inl (cA, 7, .inl (upd (P 9) f_17.toNatClampNeg f_22))), (d 10, .inl (cA, 7, .inl (P 10))), (b, .inr (2, [.int (S 0 0), .ref (g 1), .ref (g 2), .ref (g 3), .ref (g 4), .ref (g 5), .ref (g 6), .int (S 0 1), .int (S 0 2), .int (S 0 3), .int (S 0 4), .int (S 0 5), .int (S 0 6), .int (S 0 7), .ref (g 7)])), (g 1, .inl (cA, 6, .inl (S 1))), (g 2, .inl (cA, 6, .inl (S 2))), (g 3, .inl (cA, 6, .inl (S 3))), (g 4, .inl (cA, 6, .inl (S 4))), (g 5, .inl (cA, 6, .inl (S 5))), (g 6, .inl (cA, 6, .inl (S 6))), (g 7, .inl (cA, 36, .inl (S 7)))] H := hP
              have hD : va_D A [(a, .inr (0, [.ref b, .ref (d 0), .ref (d 1), .ref (d 2), .ref (d 3), .ref (d 4), .ref (d 5), .ref (d 6), .ref (d 7), .ref (d 8), .ref (d 9), .ref (d 10)])), (d 0, .inl (cA, 6, .inl (P 0))), (d 1, .inl (cA, 6, .inl (P 1))), (d 2, .inl (cA, 6, .inl (P 2))), (d 3, .inl (cA, 6, .inl (P 3))), (d 4, .inl (cA, 6, .inl (upd (P 4) k.toNatClampNeg f_8))), (d 5, .inl (cA, 6, .inl (upd (P 5) k.toNatClampNeg f_12))), (d 6, .inl (cA, 6, .inl (upd (P 6) k.toNatClampNeg 0))), (d 7, .inl (cA, 6, .inl (upd (P 7) k.toNatClampNeg 1))), (d 8, .inl (cA, 7, .inl (upd (P 8) f_13.toNatClampNeg f_16))), (d 9, .inl (cA, 7, .inl (upd (P 9) f_17.toNatClampNeg f_22))), (d 10, .inl (cA, 7, .inl (P 10))), (b, .inr (2, [.int (S 0 0), .ref (g 1), .ref (g 2), .ref (g 3), .ref (g 4), .ref (g 5), .ref (g 6), .int (S 0 1), .int (S 0 2), .int (S 0 3), .int (S 0 4), .int (S 0 5), .int (S 0 6), .int (S 0 7), .ref (g 7)])), (g 1, .inl (cA, 6, .inl (S 1))), (g 2, .inl (cA, 6, .inl (S 2))), (g 3, .inl (cA, 6, .inl (S 3))), (g 4, .inl (cA, 6, .inl (S 4))), (g 5, .inl (cA, 6, .inl (S 5))), (g 6, .inl (cA, 6, .inl (S 6))), (g 7, .inl (cA, 36, .inl (S 7)))] := hD
              refine lv_aload_n hx hb d_Plan_castStep_235 rfl (lv_at hl 4 rfl) ?_
              refine va_get (D := D) (ci := 0) (v := .ref (d 10)) (C := R_Plan) (T := T_Plan) (N := 12) hx hb hts i_Plan hown hK hP 0 rfl rfl 11 (by decide) (hts _ mb_131) (fun _ h9 => h9) rfl d_Plan_castStep_236 ?_
              refine lv_iload_n hx hb d_Plan_castStep_239 rfl (lv_at hl 5 rfl) ?_
              refine lv_iconst (v := 1) hx hb d_Plan_castStep_240 (by decide) ?_
              refine lv_iadd hx hb d_Plan_castStep_241 ?_
              refine lv_topi (fun f_23 ef_23 => ?_)
              refine lv_aload_n hx hb d_Plan_castStep_242 rfl (lv_at hl 4 rfl) ?_
              refine va_get (D := D) (ci := 0) (v := .ref (d 10)) (C := R_Plan) (T := T_Plan) (N := 12) hx hb hts i_Plan hown hK hP 0 rfl rfl 11 (by decide) (hts _ mb_131) (fun _ h9 => h9) rfl d_Plan_castStep_243 ?_
              refine lv_iload_n hx hb d_Plan_castStep_246 rfl (lv_at hl 5 rfl) ?_
              refine va_iald hx hb hK hP 11 0 rfl rfl (in_le hk (by decide)) d_Plan_castStep_247 ?_
              refine lv_topi (fun f_24 ef_24 => ?_)
              refine lv_iload hx hb d_Plan_castStep_248 (lv_at hl 1 rfl) ?_
              refine lv_if_eq (tgt := 258) hx hb d_Plan_castStep_250 (by decide) (fun c_25 => ?_) (fun c_25 => ?_)
              · skip
                refine lv_iconst (v := 0) hx hb d_Plan_castStep_258 (by decide) ?_
                refine lv_iadd hx hb d_Plan_castStep_259 ?_
                refine lv_topi (fun f_26 ef_26 => ?_)
                refine va_iast hx hb hK hP hD hS 11 0 rfl rfl (by rw [ef_23]; exact in_s hk (by decide)) d_Plan_castStep_260 (fun H locs hP hD hS => ?_)
                have hP : va_P D cls [(a, .inr (0, [.ref b, .ref (d 0), .ref (d 1), .ref (d 2), .ref (d 3), .ref (d 4), .ref (d 5), .ref (d 6), .ref (d 7), .ref (d 8), .ref (d 9), .ref (d 10)])), (d 0, .inl (cA, 6, .inl (P 0))), (d 1, .inl (cA, 6, .inl (P 1))), (d 2, .inl (cA, 6, .inl (P 2))), (d 3, .inl (cA, 6, .inl (P 3))), (d 4, .inl (cA, 6, .inl (upd (P 4) k.toNatClampNeg f_8))), (d 5, .inl (cA, 6, .inl (upd (P 5) k.toNatClampNeg f_12))), (d 6, .inl (cA, 6, .inl (upd (P 6) k.toNatClampNeg 0))), (d 7, .inl (cA, 6, .inl (upd (P 7) k.toNatClampNeg 1))), (d 8, .inl (cA, 7, .inl (upd (P 8) f_13.toNatClampNeg f_16))), (d 9, .inl (cA, 7, .inl (upd (P 9) f_17.toNatClampNeg f_22))), (d 10, .inl (cA, 7, .inl (upd (P 10) f_23.toNatClampNeg f_26))), (b, .inr (2, [.int (S 0 0), .ref (g 1), .ref (g 2), .ref (g 3), .ref (g 4), .ref (g 5), .ref (g 6), .int (S 0 1), .int (S 0 2), .int (S 0 3), .int (S 0 4), .int (S 0 5), .int (S 0 6), .int (S 0 7), .ref (g 7)])), (g 1, .inl (cA, 6, .inl (S 1))), (g 2, .inl (cA, 6, .inl (S 2))), (g 3, .inl (cA, 6, .inl (S 3))), (g 4, .inl (cA, 6, .inl (S 4))), (g 5, .inl (cA, 6, .inl (S 5))), (g 6, .inl (cA, 6, .inl (S 6))), (g 7, .inl (cA, 36, .inl (S 7)))] H := hP
                have hD : va_D A [(a, .inr (0, [.ref b, .ref (d 0), .ref (d 1), .ref (d 2), .ref (d 3), .ref (d 4), .ref (d 5), .ref (d 6), .ref (d 7), .ref (d 8), .ref (d 9), .ref (d 10)])), (d 0, .inl (cA, 6, .inl (P 0))), (d 1, .inl (cA, 6, .inl (P 1))), (d 2, .inl (cA, 6, .inl (P 2))), (d 3, .inl (cA, 6, .inl (P 3))), (d 4, .inl (cA, 6, .inl (upd (P 4) k.toNatClampNeg f_8))), (d 5, .inl (cA, 6, .inl (upd (P 5) k.toNatClampNeg f_12))), (d 6, .inl (cA, 6, .inl (upd (P 6) k.toNatClampNeg 0))), (d 7, .inl (cA, 6, .inl (upd (P 7) k.toNatClampNeg 1))), (d 8, .inl (cA, 7, .inl (upd (P 8) f_13.toNatClampNeg f_16))), (d 9, .inl (cA, 7, .inl (upd (P 9) f_17.toNatClampNeg f_22))), (d 10, .inl (cA, 7, .inl (upd (P 10) f_23.toNatClampNeg f_26))), (b, .inr (2, [.int (S 0 0), .ref (g 1), .ref (g 2), .ref (g 3), .ref (g 4), .ref (g 5), .ref (g 6), .int (S 0 1), .int (S 0 2), .int (S 0 3), .int (S 0 4), .int (S 0 5), .int (S 0 6), .int (S 0 7), .ref (g 7)])), (g 1, .inl (cA, 6, .inl (S 1))), (g 2, .inl (cA, 6, .inl (S 2))), (g 3, .inl (cA, 6, .inl (S 3))), (g 4, .inl (cA, 6, .inl (S 4))), (g 5, .inl (cA, 6, .inl (S 5))), (g 6, .inl (cA, 6, .inl (S 6))), (g 7, .inl (cA, 36, .inl (S 7)))] := hD
                have e9 : r_Plan_castStep S P k q = (tb [P 0, P 1, P 2, P 3, upd (P 4) k.toNatClampNeg f_8, upd (P 5) k.toNatClampNeg f_12, upd (P 6) k.toNatClampNeg 0, upd (P 7) k.toNatClampNeg 1, upd (P 8) f_13.toNatClampNeg f_16, upd (P 9) f_17.toNatClampNeg f_22, upd (P 10) f_23.toNatClampNeg f_26]) := by
                  subst ef_7 ef_8 ef_9 ef_10 ef_11 ef_12 ef_13 ef_14 ef_15 ef_16 ef_17 ef_18 ef_19 ef_20 ef_21 ef_22 ef_23 ef_24 ef_26; unfold r_Plan_castStep; simp only [if_pos c_1, if_pos c_2, if_pos c_3, if_pos c_4, if_pos c_5, if_pos c_6, if_pos c_25]
                exact W.vret hx hb hr (fun t ht hW => ⟨⟨(), rfl, trivial, (by rw [e9, ht]; exact hP.sub [0, 1, 2, 3, 4, 5, 6, 7, 8, 9, 10, 11, 12, 13, 14, 15, 16, 17, 18, 19] rfl), (by rw [e9]; exact hD.sub [0, 1, 2, 3, 4, 5, 6, 7, 8, 9, 10, 11, 12, 13, 14, 15, 16, 17, 18, 19] (by decide) rfl)⟩, hS.F ht⟩) hS.2.2 d_Plan_castStep_261
              · exact absurd c_25 (by decide)
            · exact absurd c_6 (by decide)
          · exact absurd c_5 (by decide)
        · exact absurd c_4 (by decide)
      · exact absurd c_3 (by decide)
    · exact absurd c_2 (by decide)
  · skip
    have hb6 : vp_in q 6 := hq.resolve_left c_1
    refine lv_iconst (v := 1) hx hb d_Plan_castStep_5 (by decide) ?_
    refine lv_goto (tgt := 10) hx hb d_Plan_castStep_6 (by decide) ?_
    refine lv_istore_n (lv' := [(3, .int 1), (0, .ref a), (1, .int k), (2, .int q)]) hx hb d_Plan_castStep_10 rfl hl (by decide) rfl (fun ls hl => ?_)
    refine lv_iload_n hx hb d_Plan_castStep_11 rfl (lv_at hl 0 rfl) ?_
    refine lv_if_eq (tgt := 37) hx hb d_Plan_castStep_12 (by decide) (fun c_27 => ?_) (fun c_27 => ?_)
    · exact absurd c_27 (by decide)
    · skip
      refine lv_aload_n hx hb d_Plan_castStep_15 rfl (lv_at hl 1 rfl) ?_
      refine va_get (D := D) (ci := 0) (v := .ref b) (C := R_Plan) (T := T_Plan) (N := 12) hx hb hts i_Plan hown hK hP 0 rfl rfl 0 (by decide) (hts _ mb_111) (fun _ h9 => h9) rfl d_Plan_castStep_16 ?_
      refine lv_aload_n hx hb d_Plan_castStep_19 rfl (lv_at hl 1 rfl) ?_
      refine va_get (D := D) (ci := 0) (v := .ref (d 0)) (C := R_Plan) (T := T_Plan) (N := 12) hx hb hts i_Plan hown hK hP 0 rfl rfl 1 (by decide) (hts _ mb_112) (fun _ h9 => h9) rfl d_Plan_castStep_20 ?_
      refine lv_iload_n hx hb d_Plan_castStep_23 rfl (lv_at hl 3 rfl) ?_
      refine va_iald hx hb hK hP 1 0 rfl rfl hb6 d_Plan_castStep_24 ?_
      refine lv_topi (fun f_28 ef_28 => ?_)
      refine lv_aload_n hx hb d_Plan_castStep_25 rfl (lv_at hl 1 rfl) ?_
      refine va_get (D := D) (ci := 0) (v := .ref (d 0)) (C := R_Plan) (T := T_Plan) (N := 12) hx hb hts i_Plan hown hK hP 0 rfl rfl 1 (by decide) (hts _ mb_112) (fun _ h9 => h9) rfl d_Plan_castStep_26 ?_
      refine lv_iload_n hx hb d_Plan_castStep_29 rfl (lv_at hl 2 rfl) ?_
      refine va_iald hx hb hK hP 1 0 rfl rfl hk d_Plan_castStep_30 ?_
      refine lv_topi (fun f_29 ef_29 => ?_)
      refine hr_callV (C := R_Shop) (T := T_Shop) (N := 15) (As := [.int f_28, .int f_29]) (rest := []) ⟨hx, hb, hml, hown, hts⟩ (k_Shop_moveBetween l D cA cZ cL b g S f_28 f_29 hG (by rw [ef_28]; exact hp _) (by rw [ef_29]; exact hp _)) (bv_V 2 hts mb_255 (hts _ mb_2) (hts _ mb_252) (hts _ mb_253) (hts _ mb_254) (by decide +kernel) ⟨Nat.le_of_ble_eq_true rfl, Nat.le_of_ble_eq_true rfl⟩) hK hZ hP [12, 13, 14, 15, 16, 17, 18, 19] rfl 12 2 rfl rfl rfl hl.1 rfl (lv_room (Nat.le_of_ble_eq_true rfl)) d_Plan_castStep_31 ⟨Nat.zero_le _, Nat.zero_le _⟩ ?_
      refine lv_topi (fun f_30 ef_30 => ?_)
      refine lv_goto (tgt := 38) hx hb d_Plan_castStep_34 (by decide) ?_
      refine lv_istore (lv' := [(4, .int f_30), (3, .int 1), (0, .ref a), (1, .int k), (2, .int q)]) hx hb d_Plan_castStep_38 hl (by decide) rfl (fun ls hl => ?_)
      refine lv_iload hx hb d_Plan_castStep_40 (lv_at hl 0 rfl) ?_
      refine lv_iconst (v := (-1)) hx hb d_Plan_castStep_42 (by decide) ?_
      refine lv_icmp_eq (tgt := 59) hx hb d_Plan_castStep_43 (by decide) (fun c_31 => ?_) (fun c_31 => ?_)
      · skip
        refine lv_iconst (v := 0) hx hb d_Plan_castStep_59 (by decide) ?_
        refine lv_istore (lv' := [(5, .int 0), (4, .int f_30), (3, .int 1), (0, .ref a), (1, .int k), (2, .int q)]) hx hb d_Plan_castStep_60 hl (by decide) rfl (fun ls hl => ?_)
        refine lv_aload_n hx hb d_Plan_castStep_62 rfl (lv_at hl 3 rfl) ?_
        refine va_get (D := D) (ci := 0) (v := .ref (d 6)) (C := R_Plan) (T := T_Plan) (N := 12) hx hb hts i_Plan hown hK hP 0 rfl rfl 7 (by decide) (hts _ mb_124) (fun _ h9 => h9) rfl d_Plan_castStep_63 ?_
        refine lv_iload_n hx hb d_Plan_castStep_66 rfl (lv_at hl 4 rfl) ?_
        refine lv_iload_n hx hb d_Plan_castStep_67 rfl (lv_at hl 2 rfl) ?_
        refine lv_if_eq (tgt := 80) hx hb d_Plan_castStep_68 (by decide) (fun c_32 => ?_) (fun c_32 => ?_)
        · exact absurd c_32 (by decide)
        · skip
          refine lv_iload hx hb d_Plan_castStep_71 (lv_at hl 0 rfl) ?_
          refine lv_if_ne (tgt := 80) hx hb d_Plan_castStep_73 (by decide) (fun c_33 => ?_) (fun c_33 => ?_)
          · exact absurd c_33 (by decide)
          · skip
            refine lv_iconst (v := 1) hx hb d_Plan_castStep_76 (by decide) ?_
            refine lv_goto (tgt := 81) hx hb d_Plan_castStep_77 (by decide) ?_
            refine va_iast hx hb hK hP hD hS 7 0 rfl rfl hk d_Plan_castStep_81 (fun H locs hP hD hS => ?_)
            have hP : va_P D cls [(a, .inr (0, [.ref b, .ref (d 0), .ref (d 1), .ref (d 2), .ref (d 3), .ref (d 4), .ref (d 5), .ref (d 6), .ref (d 7), .ref (d 8), .ref (d 9), .ref (d 10)])), (d 0, .inl (cA, 6, .inl (P 0))), (d 1, .inl (cA, 6, .inl (P 1))), (d 2, .inl (cA, 6, .inl (P 2))), (d 3, .inl (cA, 6, .inl (P 3))), (d 4, .inl (cA, 6, .inl (P 4))), (d 5, .inl (cA, 6, .inl (P 5))), (d 6, .inl (cA, 6, .inl (upd (P 6) k.toNatClampNeg 1))), (d 7, .inl (cA, 6, .inl (P 7))), (d 8, .inl (cA, 7, .inl (P 8))), (d 9, .inl (cA, 7, .inl (P 9))), (d 10, .inl (cA, 7, .inl (P 10))), (b, .inr (2, [.int (S 0 0), .ref (g 1), .ref (g 2), .ref (g 3), .ref (g 4), .ref (g 5), .ref (g 6), .int (S 0 1), .int (S 0 2), .int (S 0 3), .int (S 0 4), .int (S 0 5), .int (S 0 6), .int (S 0 7), .ref (g 7)])), (g 1, .inl (cA, 6, .inl (S 1))), (g 2, .inl (cA, 6, .inl (S 2))), (g 3, .inl (cA, 6, .inl (S 3))), (g 4, .inl (cA, 6, .inl (S 4))), (g 5, .inl (cA, 6, .inl (S 5))), (g 6, .inl (cA, 6, .inl (S 6))), (g 7, .inl (cA, 36, .inl (S 7)))] H := hP
            have hD : va_D A [(a, .inr (0, [.ref b, .ref (d 0), .ref (d 1), .ref (d 2), .ref (d 3), .ref (d 4), .ref (d 5), .ref (d 6), .ref (d 7), .ref (d 8), .ref (d 9), .ref (d 10)])), (d 0, .inl (cA, 6, .inl (P 0))), (d 1, .inl (cA, 6, .inl (P 1))), (d 2, .inl (cA, 6, .inl (P 2))), (d 3, .inl (cA, 6, .inl (P 3))), (d 4, .inl (cA, 6, .inl (P 4))), (d 5, .inl (cA, 6, .inl (P 5))), (d 6, .inl (cA, 6, .inl (upd (P 6) k.toNatClampNeg 1))), (d 7, .inl (cA, 6, .inl (P 7))), (d 8, .inl (cA, 7, .inl (P 8))), (d 9, .inl (cA, 7, .inl (P 9))), (d 10, .inl (cA, 7, .inl (P 10))), (b, .inr (2, [.int (S 0 0), .ref (g 1), .ref (g 2), .ref (g 3), .ref (g 4), .ref (g 5), .ref (g 6), .int (S 0 1), .int (S 0 2), .int (S 0 3), .int (S 0 4), .int (S 0 5), .int (S 0 6), .int (S 0 7), .ref (g 7)])), (g 1, .inl (cA, 6, .inl (S 1))), (g 2, .inl (cA, 6, .inl (S 2))), (g 3, .inl (cA, 6, .inl (S 3))), (g 4, .inl (cA, 6, .inl (S 4))), (g 5, .inl (cA, 6, .inl (S 5))), (g 6, .inl (cA, 6, .inl (S 6))), (g 7, .inl (cA, 36, .inl (S 7)))] := hD
            refine lv_aload_n hx hb d_Plan_castStep_82 rfl (lv_at hl 3 rfl) ?_
            refine va_get (D := D) (ci := 0) (v := .ref (d 7)) (C := R_Plan) (T := T_Plan) (N := 12) hx hb hts i_Plan hown hK hP 0 rfl rfl 8 (by decide) (hts _ mb_126) (fun _ h9 => h9) rfl d_Plan_castStep_83 ?_
            refine lv_iload_n hx hb d_Plan_castStep_86 rfl (lv_at hl 4 rfl) ?_
            refine lv_iload hx hb d_Plan_castStep_87 (lv_at hl 0 rfl) ?_
            refine lv_if_eq (tgt := 103) hx hb d_Plan_castStep_89 (by decide) (fun c_34 => ?_) (fun c_34 => ?_)
            · skip
              refine lv_iconst (v := 1) hx hb d_Plan_castStep_103 (by decide) ?_
              refine va_iast hx hb hK hP hD hS 8 0 rfl rfl hk d_Plan_castStep_104 (fun H locs hP hD hS => ?_)
              have hP : va_P D cls [(a, .inr (0, [.ref b, .ref (d 0), .ref (d 1), .ref (d 2), .ref (d 3), .ref (d 4), .ref (d 5), .ref (d 6), .ref (d 7), .ref (d 8), .ref (d 9), .ref (d 10)])), (d 0, .inl (cA, 6, .inl (P 0))), (d 1, .inl (cA, 6, .inl (P 1))), (d 2, .inl (cA, 6, .inl (P 2))), (d 3, .inl (cA, 6, .inl (P 3))), (d 4, .inl (cA, 6, .inl (P 4))), (d 5, .inl (cA, 6, .inl (P 5))), (d 6, .inl (cA, 6, .inl (upd (P 6) k.toNatClampNeg 1))), (d 7, .inl (cA, 6, .inl (upd (P 7) k.toNatClampNeg 1))), (d 8, .inl (cA, 7, .inl (P 8))), (d 9, .inl (cA, 7, .inl (P 9))), (d 10, .inl (cA, 7, .inl (P 10))), (b, .inr (2, [.int (S 0 0), .ref (g 1), .ref (g 2), .ref (g 3), .ref (g 4), .ref (g 5), .ref (g 6), .int (S 0 1), .int (S 0 2), .int (S 0 3), .int (S 0 4), .int (S 0 5), .int (S 0 6), .int (S 0 7), .ref (g 7)])), (g 1, .inl (cA, 6, .inl (S 1))), (g 2, .inl (cA, 6, .inl (S 2))), (g 3, .inl (cA, 6, .inl (S 3))), (g 4, .inl (cA, 6, .inl (S 4))), (g 5, .inl (cA, 6, .inl (S 5))), (g 6, .inl (cA, 6, .inl (S 6))), (g 7, .inl (cA, 36, .inl (S 7)))] H := hP
              have hD : va_D A [(a, .inr (0, [.ref b, .ref (d 0), .ref (d 1), .ref (d 2), .ref (d 3), .ref (d 4), .ref (d 5), .ref (d 6), .ref (d 7), .ref (d 8), .ref (d 9), .ref (d 10)])), (d 0, .inl (cA, 6, .inl (P 0))), (d 1, .inl (cA, 6, .inl (P 1))), (d 2, .inl (cA, 6, .inl (P 2))), (d 3, .inl (cA, 6, .inl (P 3))), (d 4, .inl (cA, 6, .inl (P 4))), (d 5, .inl (cA, 6, .inl (P 5))), (d 6, .inl (cA, 6, .inl (upd (P 6) k.toNatClampNeg 1))), (d 7, .inl (cA, 6, .inl (upd (P 7) k.toNatClampNeg 1))), (d 8, .inl (cA, 7, .inl (P 8))), (d 9, .inl (cA, 7, .inl (P 9))), (d 10, .inl (cA, 7, .inl (P 10))), (b, .inr (2, [.int (S 0 0), .ref (g 1), .ref (g 2), .ref (g 3), .ref (g 4), .ref (g 5), .ref (g 6), .int (S 0 1), .int (S 0 2), .int (S 0 3), .int (S 0 4), .int (S 0 5), .int (S 0 6), .int (S 0 7), .ref (g 7)])), (g 1, .inl (cA, 6, .inl (S 1))), (g 2, .inl (cA, 6, .inl (S 2))), (g 3, .inl (cA, 6, .inl (S 3))), (g 4, .inl (cA, 6, .inl (S 4))), (g 5, .inl (cA, 6, .inl (S 5))), (g 6, .inl (cA, 6, .inl (S 6))), (g 7, .inl (cA, 36, .inl (S 7)))] := hD
              refine lv_iload_n hx hb d_Plan_castStep_105 rfl (lv_at hl 2 rfl) ?_
              refine lv_if_eq (tgt := 133) hx hb d_Plan_castStep_106 (by decide) (fun c_35 => ?_) (fun c_35 => ?_)
              · exact absurd c_35 (by decide)
              · skip
                refine lv_aload_n hx hb d_Plan_castStep_109 rfl (lv_at hl 3 rfl) ?_
                refine va_get (D := D) (ci := 0) (v := .ref (d 5)) (C := R_Plan) (T := T_Plan) (N := 12) hx hb hts i_Plan hown hK hP 0 rfl rfl 6 (by decide) (hts _ mb_122) (fun _ h9 => h9) rfl d_Plan_castStep_110 ?_
                refine lv_iload_n hx hb d_Plan_castStep_113 rfl (lv_at hl 5 rfl) ?_
                refine va_iald hx hb hK hP 6 0 rfl rfl hb6 d_Plan_castStep_114 ?_
                refine lv_topi (fun f_36 ef_36 => ?_)
                refine lv_aload_n hx hb d_Plan_castStep_115 rfl (lv_at hl 3 rfl) ?_
                refine va_get (D := D) (ci := 0) (v := .ref (d 6)) (C := R_Plan) (T := T_Plan) (N := 12) hx hb hts i_Plan hown hK hP 0 rfl rfl 7 (by decide) (hts _ mb_124) (fun _ h9 => h9) rfl d_Plan_castStep_116 ?_
                refine lv_iload_n hx hb d_Plan_castStep_119 rfl (lv_at hl 4 rfl) ?_
                refine va_iald hx hb hK hP 7 0 rfl rfl hk d_Plan_castStep_120 ?_
                refine lv_topi (fun f_37 ef_37 => ?_)
                refine lv_aload_n hx hb d_Plan_castStep_121 rfl (lv_at hl 3 rfl) ?_
                refine va_get (D := D) (ci := 0) (v := .ref b) (C := R_Plan) (T := T_Plan) (N := 12) hx hb hts i_Plan hown hK hP 0 rfl rfl 0 (by decide) (hts _ mb_111) (fun _ h9 => h9) rfl d_Plan_castStep_122 ?_
                refine va_get (D := D) (ci := 2) (v := .int (S 0 2)) (C := R_Shop) (T := T_Shop) (N := 15) hx hb hts i_Shop hown hK hP 12 rfl rfl 8 (by decide) (hts _ mb_49) (fun _ h9 => h9) rfl d_Plan_castStep_125 ?_
                refine lv_imul hx hb d_Plan_castStep_128 ?_
                refine lv_topi (fun f_38 ef_38 => ?_)
                refine lv_iadd hx hb d_Plan_castStep_129 ?_
                refine lv_topi (fun f_39 ef_39 => ?_)
                refine lv_goto (tgt := 134) hx hb d_Plan_castStep_130 (by decide) ?_
                refine lv_istore (lv' := [(6, .int f_39), (5, .int 0), (4, .int f_30), (3, .int 1), (0, .ref a), (1, .int k), (2, .int q)]) hx hb d_Plan_castStep_134 hl (by decide) rfl (fun ls hl => ?_)
                refine lv_aload_n hx hb d_Plan_castStep_136 rfl (lv_at hl 4 rfl) ?_
                refine va_get (D := D) (ci := 0) (v := .ref (d 4)) (C := R_Plan) (T := T_Plan) (N := 12) hx hb hts i_Plan hown hK hP 0 rfl rfl 5 (by decide) (hts _ mb_120) (fun _ h9 => h9) rfl d_Plan_castStep_137 ?_
                refine lv_iload_n hx hb d_Plan_castStep_140 rfl (lv_at hl 5 rfl) ?_
                refine lv_aload_n hx hb d_Plan_castStep_141 rfl (lv_at hl 4 rfl) ?_
                refine va_get (D := D) (ci := 0) (v := .ref (d 3)) (C := R_Plan) (T := T_Plan) (N := 12) hx hb hts i_Plan hown hK hP 0 rfl rfl 4 (by decide) (hts _ mb_118) (fun _ h9 => h9) rfl d_Plan_castStep_142 ?_
                refine lv_iload_n hx hb d_Plan_castStep_145 rfl (lv_at hl 5 rfl) ?_
                refine va_iald hx hb hK hP 4 0 rfl rfl hk d_Plan_castStep_146 ?_
                refine lv_topi (fun f_40 ef_40 => ?_)
                refine lv_iload hx hb d_Plan_castStep_147 (lv_at hl 0 rfl) ?_
                refine va_mmax hx hb (hml.trans hl.1.symm) hown (hts _ mb_263) (hts _ mb_215) (hts _ mb_12) (hts _ mb_216) (Nat.le_of_ble_eq_true rfl) (Nat.le_of_ble_eq_true rfl) (Nat.zero_le _) (Nat.zero_le _) d_Plan_castStep_149 ?_
                refine lv_topi (fun f_41 ef_41 => ?_)
                refine va_iast hx hb hK hP hD hS 5 0 rfl rfl hk d_Plan_castStep_152 (fun H locs hP hD hS => ?_)
                have hP : va_P D cls [(a, .inr (0, [.ref b, .ref (d 0), .ref (d 1), .ref (d 2), .ref (d 3), .ref (d 4), .ref (d 5), .ref (d 6), .ref (d 7), .ref (d 8), .ref (d 9), .ref (d 10)])), (d 0, .inl (cA, 6, .inl (P 0))), (d 1, .inl (cA, 6, .inl (P 1))), (d 2, .inl (cA, 6, .inl (P 2))), (d 3, .inl (cA, 6, .inl (P 3))), (d 4, .inl (cA, 6, .inl (upd (P 4) k.toNatClampNeg f_41))), (d 5, .inl (cA, 6, .inl (P 5))), (d 6, .inl (cA, 6, .inl (upd (P 6) k.toNatClampNeg 1))), (d 7, .inl (cA, 6, .inl (upd (P 7) k.toNatClampNeg 1))), (d 8, .inl (cA, 7, .inl (P 8))), (d 9, .inl (cA, 7, .inl (P 9))), (d 10, .inl (cA, 7, .inl (P 10))), (b, .inr (2, [.int (S 0 0), .ref (g 1), .ref (g 2), .ref (g 3), .ref (g 4), .ref (g 5), .ref (g 6), .int (S 0 1), .int (S 0 2), .int (S 0 3), .int (S 0 4), .int (S 0 5), .int (S 0 6), .int (S 0 7), .ref (g 7)])), (g 1, .inl (cA, 6, .inl (S 1))), (g 2, .inl (cA, 6, .inl (S 2))), (g 3, .inl (cA, 6, .inl (S 3))), (g 4, .inl (cA, 6, .inl (S 4))), (g 5, .inl (cA, 6, .inl (S 5))), (g 6, .inl (cA, 6, .inl (S 6))), (g 7, .inl (cA, 36, .inl (S 7)))] H := hP
                have hD : va_D A [(a, .inr (0, [.ref b, .ref (d 0), .ref (d 1), .ref (d 2), .ref (d 3), .ref (d 4), .ref (d 5), .ref (d 6), .ref (d 7), .ref (d 8), .ref (d 9), .ref (d 10)])), (d 0, .inl (cA, 6, .inl (P 0))), (d 1, .inl (cA, 6, .inl (P 1))), (d 2, .inl (cA, 6, .inl (P 2))), (d 3, .inl (cA, 6, .inl (P 3))), (d 4, .inl (cA, 6, .inl (upd (P 4) k.toNatClampNeg f_41))), (d 5, .inl (cA, 6, .inl (P 5))), (d 6, .inl (cA, 6, .inl (upd (P 6) k.toNatClampNeg 1))), (d 7, .inl (cA, 6, .inl (upd (P 7) k.toNatClampNeg 1))), (d 8, .inl (cA, 7, .inl (P 8))), (d 9, .inl (cA, 7, .inl (P 9))), (d 10, .inl (cA, 7, .inl (P 10))), (b, .inr (2, [.int (S 0 0), .ref (g 1), .ref (g 2), .ref (g 3), .ref (g 4), .ref (g 5), .ref (g 6), .int (S 0 1), .int (S 0 2), .int (S 0 3), .int (S 0 4), .int (S 0 5), .int (S 0 6), .int (S 0 7), .ref (g 7)])), (g 1, .inl (cA, 6, .inl (S 1))), (g 2, .inl (cA, 6, .inl (S 2))), (g 3, .inl (cA, 6, .inl (S 3))), (g 4, .inl (cA, 6, .inl (S 4))), (g 5, .inl (cA, 6, .inl (S 5))), (g 6, .inl (cA, 6, .inl (S 6))), (g 7, .inl (cA, 36, .inl (S 7)))] := hD
                refine lv_aload_n hx hb d_Plan_castStep_153 rfl (lv_at hl 4 rfl) ?_
                refine va_get (D := D) (ci := 0) (v := .ref (d 5)) (C := R_Plan) (T := T_Plan) (N := 12) hx hb hts i_Plan hown hK hP 0 rfl rfl 6 (by decide) (hts _ mb_122) (fun _ h9 => h9) rfl d_Plan_castStep_154 ?_
                refine lv_iload_n hx hb d_Plan_castStep_157 rfl (lv_at hl 5 rfl) ?_
                refine lv_aload_n hx hb d_Plan_castStep_158 rfl (lv_at hl 4 rfl) ?_
                refine va_get (D := D) (ci := 0) (v := .ref (d 4)) (C := R_Plan) (T := T_Plan) (N := 12) hx hb hts i_Plan hown hK hP 0 rfl rfl 5 (by decide) (hts _ mb_120) (fun _ h9 => h9) rfl d_Plan_castStep_159 ?_
                refine lv_iload_n hx hb d_Plan_castStep_162 rfl (lv_at hl 5 rfl) ?_
                refine va_iald hx hb hK hP 5 0 rfl rfl hk d_Plan_castStep_163 ?_
                refine lv_topi (fun f_42 ef_42 => ?_)
                refine lv_aload_n hx hb d_Plan_castStep_164 rfl (lv_at hl 4 rfl) ?_
                refine va_get (D := D) (ci := 0) (v := .ref b) (C := R_Plan) (T := T_Plan) (N := 12) hx hb hts i_Plan hown hK hP 0 rfl rfl 0 (by decide) (hts _ mb_111) (fun _ h9 => h9) rfl d_Plan_castStep_165 ?_
                refine va_get (D := D) (ci := 2) (v := .ref (g 4)) (C := R_Shop) (T := T_Shop) (N := 15) hx hb hts i_Shop hown hK hP 12 rfl rfl 4 (by decide) (hts _ mb_39) (fun _ h9 => h9) rfl d_Plan_castStep_168 ?_
                refine lv_aload_n hx hb d_Plan_castStep_171 rfl (lv_at hl 4 rfl) ?_
                refine va_get (D := D) (ci := 0) (v := .ref (d 0)) (C := R_Plan) (T := T_Plan) (N := 12) hx hb hts i_Plan hown hK hP 0 rfl rfl 1 (by decide) (hts _ mb_112) (fun _ h9 => h9) rfl d_Plan_castStep_172 ?_
                refine lv_iload_n hx hb d_Plan_castStep_175 rfl (lv_at hl 5 rfl) ?_
                refine va_iald hx hb hK hP 1 0 rfl rfl hk d_Plan_castStep_176 ?_
                refine lv_topi (fun f_43 ef_43 => ?_)
                refine va_iald hx hb hK hP 16 0 rfl rfl (by rw [ef_43]; exact hp _) d_Plan_castStep_177 ?_
                refine lv_topi (fun f_44 ef_44 => ?_)
                refine lv_iadd hx hb d_Plan_castStep_178 ?_
                refine lv_topi (fun f_45 ef_45 => ?_)
                refine va_iast hx hb hK hP hD hS 6 0 rfl rfl hk d_Plan_castStep_179 (fun H locs hP hD hS => ?_)
                have hP : va_P D cls [(a, .inr (0, [.ref b, .ref (d 0), .ref (d 1), .ref (d 2), .ref (d 3), .ref (d 4), .ref (d 5), .ref (d 6), .ref (d 7), .ref (d 8), .ref (d 9), .ref (d 10)])), (d 0, .inl (cA, 6, .inl (P 0))), (d 1, .inl (cA, 6, .inl (P 1))), (d 2, .inl (cA, 6, .inl (P 2))), (d 3, .inl (cA, 6, .inl (P 3))), (d 4, .inl (cA, 6, .inl (upd (P 4) k.toNatClampNeg f_41))), (d 5, .inl (cA, 6, .inl (upd (P 5) k.toNatClampNeg f_45))), (d 6, .inl (cA, 6, .inl (upd (P 6) k.toNatClampNeg 1))), (d 7, .inl (cA, 6, .inl (upd (P 7) k.toNatClampNeg 1))), (d 8, .inl (cA, 7, .inl (P 8))), (d 9, .inl (cA, 7, .inl (P 9))), (d 10, .inl (cA, 7, .inl (P 10))), (b, .inr (2, [.int (S 0 0), .ref (g 1), .ref (g 2), .ref (g 3), .ref (g 4), .ref (g 5), .ref (g 6), .int (S 0 1), .int (S 0 2), .int (S 0 3), .int (S 0 4), .int (S 0 5), .int (S 0 6), .int (S 0 7), .ref (g 7)])), (g 1, .inl (cA, 6, .inl (S 1))), (g 2, .inl (cA, 6, .inl (S 2))), (g 3, .inl (cA, 6, .inl (S 3))), (g 4, .inl (cA, 6, .inl (S 4))), (g 5, .inl (cA, 6, .inl (S 5))), (g 6, .inl (cA, 6, .inl (S 6))), (g 7, .inl (cA, 36, .inl (S 7)))] H := hP
                have hD : va_D A [(a, .inr (0, [.ref b, .ref (d 0), .ref (d 1), .ref (d 2), .ref (d 3), .ref (d 4), .ref (d 5), .ref (d 6), .ref (d 7), .ref (d 8), .ref (d 9), .ref (d 10)])), (d 0, .inl (cA, 6, .inl (P 0))), (d 1, .inl (cA, 6, .inl (P 1))), (d 2, .inl (cA, 6, .inl (P 2))), (d 3, .inl (cA, 6, .inl (P 3))), (d 4, .inl (cA, 6, .inl (upd (P 4) k.toNatClampNeg f_41))), (d 5, .inl (cA, 6, .inl (upd (P 5) k.toNatClampNeg f_45))), (d 6, .inl (cA, 6, .inl (upd (P 6) k.toNatClampNeg 1))), (d 7, .inl (cA, 6, .inl (upd (P 7) k.toNatClampNeg 1))), (d 8, .inl (cA, 7, .inl (P 8))), (d 9, .inl (cA, 7, .inl (P 9))), (d 10, .inl (cA, 7, .inl (P 10))), (b, .inr (2, [.int (S 0 0), .ref (g 1), .ref (g 2), .ref (g 3), .ref (g 4), .ref (g 5), .ref (g 6), .int (S 0 1), .int (S 0 2), .int (S 0 3), .int (S 0 4), .int (S 0 5), .int (S 0 6), .int (S 0 7), .ref (g 7)])), (g 1, .inl (cA, 6, .inl (S 1))), (g 2, .inl (cA, 6, .inl (S 2))), (g 3, .inl (cA, 6, .inl (S 3))), (g 4, .inl (cA, 6, .inl (S 4))), (g 5, .inl (cA, 6, .inl (S 5))), (g 6, .inl (cA, 6, .inl (S 6))), (g 7, .inl (cA, 36, .inl (S 7)))] := hD
                refine lv_aload_n hx hb d_Plan_castStep_180 rfl (lv_at hl 4 rfl) ?_
                refine va_get (D := D) (ci := 0) (v := .ref (d 8)) (C := R_Plan) (T := T_Plan) (N := 12) hx hb hts i_Plan hown hK hP 0 rfl rfl 9 (by decide) (hts _ mb_127) (fun _ h9 => h9) rfl d_Plan_castStep_181 ?_
                refine lv_iload_n hx hb d_Plan_castStep_184 rfl (lv_at hl 5 rfl) ?_
                refine lv_iconst (v := 1) hx hb d_Plan_castStep_185 (by decide) ?_
                refine lv_iadd hx hb d_Plan_castStep_186 ?_
                refine lv_topi (fun f_46 ef_46 => ?_)
                refine lv_aload_n hx hb d_Plan_castStep_187 rfl (lv_at hl 4 rfl) ?_
                refine va_get (D := D) (ci := 0) (v := .ref (d 8)) (C := R_Plan) (T := T_Plan) (N := 12) hx hb hts i_Plan hown hK hP 0 rfl rfl 9 (by decide) (hts _ mb_127) (fun _ h9 => h9) rfl d_Plan_castStep_188 ?_
                refine lv_iload_n hx hb d_Plan_castStep_191 rfl (lv_at hl 5 rfl) ?_
                refine va_iald hx hb hK hP 9 0 rfl rfl (in_le hk (by decide)) d_Plan_castStep_192 ?_
                refine lv_topi (fun f_47 ef_47 => ?_)
                refine lv_aload_n hx hb d_Plan_castStep_193 rfl (lv_at hl 4 rfl) ?_
                refine va_get (D := D) (ci := 0) (v := .ref (d 6)) (C := R_Plan) (T := T_Plan) (N := 12) hx hb hts i_Plan hown hK hP 0 rfl rfl 7 (by decide) (hts _ mb_124) (fun _ h9 => h9) rfl d_Plan_castStep_194 ?_
                refine lv_iload_n hx hb d_Plan_castStep_197 rfl (lv_at hl 5 rfl) ?_
                refine va_iald hx hb hK hP 7 0 rfl rfl hk d_Plan_castStep_198 ?_
                refine lv_topi (fun f_48 ef_48 => ?_)
                refine lv_iadd hx hb d_Plan_castStep_199 ?_
                refine lv_topi (fun f_49 ef_49 => ?_)
                refine va_iast hx hb hK hP hD hS 9 0 rfl rfl (by rw [ef_46]; exact in_s hk (by decide)) d_Plan_castStep_200 (fun H locs hP hD hS => ?_)
                have hP : va_P D cls [(a, .inr (0, [.ref b, .ref (d 0), .ref (d 1), .ref (d 2), .ref (d 3), .ref (d 4), .ref (d 5), .ref (d 6), .ref (d 7), .ref (d 8), .ref (d 9), .ref (d 10)])), (d 0, .inl (cA, 6, .inl (P 0))), (d 1, .inl (cA, 6, .inl (P 1))), (d 2, .inl (cA, 6, .inl (P 2))), (d 3, .inl (cA, 6, .inl (P 3))), (d 4, .inl (cA, 6, .inl (upd (P 4) k.toNatClampNeg f_41))), (d 5, .inl (cA, 6, .inl (upd (P 5) k.toNatClampNeg f_45))), (d 6, .inl (cA, 6, .inl (upd (P 6) k.toNatClampNeg 1))), (d 7, .inl (cA, 6, .inl (upd (P 7) k.toNatClampNeg 1))), (d 8, .inl (cA, 7, .inl (upd (P 8) f_46.toNatClampNeg f_49))), (d 9, .inl (cA, 7, .inl (P 9))), (d 10, .inl (cA, 7, .inl (P 10))), (b, .inr (2, [.int (S 0 0), .ref (g 1), .ref (g 2), .ref (g 3), .ref (g 4), .ref (g 5), .ref (g 6), .int (S 0 1), .int (S 0 2), .int (S 0 3), .int (S 0 4), .int (S 0 5), .int (S 0 6), .int (S 0 7), .ref (g 7)])), (g 1, .inl (cA, 6, .inl (S 1))), (g 2, .inl (cA, 6, .inl (S 2))), (g 3, .inl (cA, 6, .inl (S 3))), (g 4, .inl (cA, 6, .inl (S 4))), (g 5, .inl (cA, 6, .inl (S 5))), (g 6, .inl (cA, 6, .inl (S 6))), (g 7, .inl (cA, 36, .inl (S 7)))] H := hP
                have hD : va_D A [(a, .inr (0, [.ref b, .ref (d 0), .ref (d 1), .ref (d 2), .ref (d 3), .ref (d 4), .ref (d 5), .ref (d 6), .ref (d 7), .ref (d 8), .ref (d 9), .ref (d 10)])), (d 0, .inl (cA, 6, .inl (P 0))), (d 1, .inl (cA, 6, .inl (P 1))), (d 2, .inl (cA, 6, .inl (P 2))), (d 3, .inl (cA, 6, .inl (P 3))), (d 4, .inl (cA, 6, .inl (upd (P 4) k.toNatClampNeg f_41))), (d 5, .inl (cA, 6, .inl (upd (P 5) k.toNatClampNeg f_45))), (d 6, .inl (cA, 6, .inl (upd (P 6) k.toNatClampNeg 1))), (d 7, .inl (cA, 6, .inl (upd (P 7) k.toNatClampNeg 1))), (d 8, .inl (cA, 7, .inl (upd (P 8) f_46.toNatClampNeg f_49))), (d 9, .inl (cA, 7, .inl (P 9))), (d 10, .inl (cA, 7, .inl (P 10))), (b, .inr (2, [.int (S 0 0), .ref (g 1), .ref (g 2), .ref (g 3), .ref (g 4), .ref (g 5), .ref (g 6), .int (S 0 1), .int (S 0 2), .int (S 0 3), .int (S 0 4), .int (S 0 5), .int (S 0 6), .int (S 0 7), .ref (g 7)])), (g 1, .inl (cA, 6, .inl (S 1))), (g 2, .inl (cA, 6, .inl (S 2))), (g 3, .inl (cA, 6, .inl (S 3))), (g 4, .inl (cA, 6, .inl (S 4))), (g 5, .inl (cA, 6, .inl (S 5))), (g 6, .inl (cA, 6, .inl (S 6))), (g 7, .inl (cA, 36, .inl (S 7)))] := hD
                refine lv_aload_n hx hb d_Plan_castStep_201 rfl (lv_at hl 4 rfl) ?_
                refine va_get (D := D) (ci := 0) (v := .ref (d 9)) (C := R_Plan) (T := T_Plan) (N := 12) hx hb hts i_Plan hown hK hP 0 rfl rfl 10 (by decide) (hts _ mb_129) (fun _ h9 => h9) rfl d_Plan_castStep_202 ?_
                refine lv_iload_n hx hb d_Plan_castStep_205 rfl (lv_at hl 5 rfl) ?_
                refine lv_iconst (v := 1) hx hb d_Plan_castStep_206 (by decide) ?_
                refine lv_iadd hx hb d_Plan_castStep_207 ?_
                refine lv_topi (fun f_50 ef_50 => ?_)
                refine lv_aload_n hx hb d_Plan_castStep_208 rfl (lv_at hl 4 rfl) ?_
                refine va_get (D := D) (ci := 0) (v := .ref (d 9)) (C := R_Plan) (T := T_Plan) (N := 12) hx hb hts i_Plan hown hK hP 0 rfl rfl 10 (by decide) (hts _ mb_129) (fun _ h9 => h9) rfl d_Plan_castStep_209 ?_
                refine lv_iload_n hx hb d_Plan_castStep_212 rfl (lv_at hl 5 rfl) ?_
                refine va_iald hx hb hK hP 10 0 rfl rfl (in_le hk (by decide)) d_Plan_castStep_213 ?_
                refine lv_topi (fun f_51 ef_51 => ?_)
                refine lv_aload_n hx hb d_Plan_castStep_214 rfl (lv_at hl 4 rfl) ?_
                refine va_get (D := D) (ci := 0) (v := .ref b) (C := R_Plan) (T := T_Plan) (N := 12) hx hb hts i_Plan hown hK hP 0 rfl rfl 0 (by decide) (hts _ mb_111) (fun _ h9 => h9) rfl d_Plan_castStep_215 ?_
                refine lv_aload_n hx hb d_Plan_castStep_218 rfl (lv_at hl 4 rfl) ?_
                refine va_get (D := D) (ci := 0) (v := .ref (d 0)) (C := R_Plan) (T := T_Plan) (N := 12) hx hb hts i_Plan hown hK hP 0 rfl rfl 1 (by decide) (hts _ mb_112) (fun _ h9 => h9) rfl d_Plan_castStep_219 ?_
                refine lv_iload_n hx hb d_Plan_castStep_222 rfl (lv_at hl 5 rfl) ?_
                refine va_iald hx hb hK hP 1 0 rfl rfl hk d_Plan_castStep_223 ?_
                refine lv_topi (fun f_52 ef_52 => ?_)
                refine lv_aload_n hx hb d_Plan_castStep_224 rfl (lv_at hl 4 rfl) ?_
                refine va_get (D := D) (ci := 0) (v := .ref (d 5)) (C := R_Plan) (T := T_Plan) (N := 12) hx hb hts i_Plan hown hK hP 0 rfl rfl 6 (by decide) (hts _ mb_122) (fun _ h9 => h9) rfl d_Plan_castStep_225 ?_
                refine lv_iload_n hx hb d_Plan_castStep_228 rfl (lv_at hl 5 rfl) ?_
                refine va_iald hx hb hK hP 6 0 rfl rfl hk d_Plan_castStep_229 ?_
                refine lv_topi (fun f_53 ef_53 => ?_)
                refine hr_callV (C := R_Shop) (T := T_Shop) (N := 15) (As := [.int f_52, .int f_53]) (rest := [.int f_51, .int f_50, .ref (d 9)]) ⟨hx, hb, hml, hown, hts⟩ (k_Shop_lateMinutes l D cA cZ cL b g S f_52 f_53 (by rw [ef_52]; exact hp _)) (bv_V 2 hts mb_213 (hts _ mb_2) (hts _ mb_264) (hts _ mb_211) (hts _ mb_212) (by decide +kernel) ⟨Nat.le_of_ble_eq_true rfl, Nat.le_of_ble_eq_true rfl⟩) hK hZ hP [12, 13, 14, 15, 16, 17, 18, 19] rfl 12 2 rfl rfl rfl hl.1 rfl (lv_room (Nat.le_of_ble_eq_true rfl)) d_Plan_castStep_230 ⟨Nat.zero_le _, Nat.zero_le _⟩ ?_
                refine lv_topi (fun f_54 ef_54 => ?_)
                refine lv_iadd hx hb d_Plan_castStep_233 ?_
                refine lv_topi (fun f_55 ef_55 => ?_)
                refine va_iast hx hb hK hP hD hS 10 0 rfl rfl (by rw [ef_50]; exact in_s hk (by decide)) d_Plan_castStep_234 (fun H locs hP hD hS => ?_)
                have hP : va_P D cls [(a, .inr (0, [.ref b, .ref (d 0), .ref (d 1), .ref (d 2), .ref (d 3), .ref (d 4), .ref (d 5), .ref (d 6), .ref (d 7), .ref (d 8), .ref (d 9), .ref (d 10)])), (d 0, .inl (cA, 6, .inl (P 0))), (d 1, .inl (cA, 6, .inl (P 1))), (d 2, .inl (cA, 6, .inl (P 2))), (d 3, .inl (cA, 6, .inl (P 3))), (d 4, .inl (cA, 6, .inl (upd (P 4) k.toNatClampNeg f_41))), (d 5, .inl (cA, 6, .inl (upd (P 5) k.toNatClampNeg f_45))), (d 6, .inl (cA, 6, .inl (upd (P 6) k.toNatClampNeg 1))), (d 7, .inl (cA, 6, .inl (upd (P 7) k.toNatClampNeg 1))), (d 8, .inl (cA, 7, .inl (upd (P 8) f_46.toNatClampNeg f_49))), (d 9, .inl (cA, 7, .inl (upd (P 9) f_50.toNatClampNeg f_55))), (d 10, .inl (cA, 7, .inl (P 10))), (b, .inr (2, [.int (S 0 0), .ref (g 1), .ref (g 2), .ref (g 3), .ref (g 4), .ref (g 5), .ref (g 6), .int (S 0 1), .int (S 0 2), .int (S 0 3), .int (S 0 4), .int (S 0 5), .int (S 0 6), .int (S 0 7), .ref (g 7)])), (g 1, .inl (cA, 6, .inl (S 1))), (g 2, .inl (cA, 6, .inl (S 2))), (g 3, .inl (cA, 6, .inl (S 3))), (g 4, .inl (cA, 6, .inl (S 4))), (g 5, .inl (cA, 6, .inl (S 5))), (g 6, .inl (cA, 6, .inl (S 6))), (g 7, .inl (cA, 36, .inl (S 7)))] H := hP
                have hD : va_D A [(a, .inr (0, [.ref b, .ref (d 0), .ref (d 1), .ref (d 2), .ref (d 3), .ref (d 4), .ref (d 5), .ref (d 6), .ref (d 7), .ref (d 8), .ref (d 9), .ref (d 10)])), (d 0, .inl (cA, 6, .inl (P 0))), (d 1, .inl (cA, 6, .inl (P 1))), (d 2, .inl (cA, 6, .inl (P 2))), (d 3, .inl (cA, 6, .inl (P 3))), (d 4, .inl (cA, 6, .inl (upd (P 4) k.toNatClampNeg f_41))), (d 5, .inl (cA, 6, .inl (upd (P 5) k.toNatClampNeg f_45))), (d 6, .inl (cA, 6, .inl (upd (P 6) k.toNatClampNeg 1))), (d 7, .inl (cA, 6, .inl (upd (P 7) k.toNatClampNeg 1))), (d 8, .inl (cA, 7, .inl (upd (P 8) f_46.toNatClampNeg f_49))), (d 9, .inl (cA, 7, .inl (upd (P 9) f_50.toNatClampNeg f_55))), (d 10, .inl (cA, 7, .inl (P 10))), (b, .inr (2, [.int (S 0 0), .ref (g 1), .ref (g 2), .ref (g 3), .ref (g 4), .ref (g 5), .ref (g 6), .int (S 0 1), .int (S 0 2), .int (S 0 3), .int (S 0 4), .int (S 0 5), .int (S 0 6), .int (S 0 7), .ref (g 7)])), (g 1, .inl (cA, 6, .inl (S 1))), (g 2, .inl (cA, 6, .inl (S 2))), (g 3, .inl (cA, 6, .inl (S 3))), (g 4, .inl (cA, 6, .inl (S 4))), (g 5, .inl (cA, 6, .inl (S 5))), (g 6, .inl (cA, 6, .inl (S 6))), (g 7, .inl (cA, 36, .inl (S 7)))] := hD
                refine lv_aload_n hx hb d_Plan_castStep_235 rfl (lv_at hl 4 rfl) ?_
                refine va_get (D := D) (ci := 0) (v := .ref (d 10)) (C := R_Plan) (T := T_Plan) (N := 12) hx hb hts i_Plan hown hK hP 0 rfl rfl 11 (by decide) (hts _ mb_131) (fun _ h9 => h9) rfl d_Plan_castStep_236 ?_
                refine lv_iload_n hx hb d_Plan_castStep_239 rfl (lv_at hl 5 rfl) ?_
                refine lv_iconst (v := 1) hx hb d_Plan_castStep_240 (by decide) ?_
                refine lv_iadd hx hb d_Plan_castStep_241 ?_
                refine lv_topi (fun f_56 ef_56 => ?_)
                refine lv_aload_n hx hb d_Plan_castStep_242 rfl (lv_at hl 4 rfl) ?_
                refine va_get (D := D) (ci := 0) (v := .ref (d 10)) (C := R_Plan) (T := T_Plan) (N := 12) hx hb hts i_Plan hown hK hP 0 rfl rfl 11 (by decide) (hts _ mb_131) (fun _ h9 => h9) rfl d_Plan_castStep_243 ?_
                refine lv_iload_n hx hb d_Plan_castStep_246 rfl (lv_at hl 5 rfl) ?_
                refine va_iald hx hb hK hP 11 0 rfl rfl (in_le hk (by decide)) d_Plan_castStep_247 ?_
                refine lv_topi (fun f_57 ef_57 => ?_)
                refine lv_iload hx hb d_Plan_castStep_248 (lv_at hl 1 rfl) ?_
                refine lv_if_eq (tgt := 258) hx hb d_Plan_castStep_250 (by decide) (fun c_58 => ?_) (fun c_58 => ?_)
                · skip
                  refine lv_iconst (v := 0) hx hb d_Plan_castStep_258 (by decide) ?_
                  refine lv_iadd hx hb d_Plan_castStep_259 ?_
                  refine lv_topi (fun f_59 ef_59 => ?_)
                  refine va_iast hx hb hK hP hD hS 11 0 rfl rfl (by rw [ef_56]; exact in_s hk (by decide)) d_Plan_castStep_260 (fun H locs hP hD hS => ?_)
                  have hP : va_P D cls [(a, .inr (0, [.ref b, .ref (d 0), .ref (d 1), .ref (d 2), .ref (d 3), .ref (d 4), .ref (d 5), .ref (d 6), .ref (d 7), .ref (d 8), .ref (d 9), .ref (d 10)])), (d 0, .inl (cA, 6, .inl (P 0))), (d 1, .inl (cA, 6, .inl (P 1))), (d 2, .inl (cA, 6, .inl (P 2))), (d 3, .inl (cA, 6, .inl (P 3))), (d 4, .inl (cA, 6, .inl (upd (P 4) k.toNatClampNeg f_41))), (d 5, .inl (cA, 6, .inl (upd (P 5) k.toNatClampNeg f_45))), (d 6, .inl (cA, 6, .inl (upd (P 6) k.toNatClampNeg 1))), (d 7, .inl (cA, 6, .inl (upd (P 7) k.toNatClampNeg 1))), (d 8, .inl (cA, 7, .inl (upd (P 8) f_46.toNatClampNeg f_49))), (d 9, .inl (cA, 7, .inl (upd (P 9) f_50.toNatClampNeg f_55))), (d 10, .inl (cA, 7, .inl (upd (P 10) f_56.toNatClampNeg f_59))), (b, .inr (2, [.int (S 0 0), .ref (g 1), .ref (g 2), .ref (g 3), .ref (g 4), .ref (g 5), .ref (g 6), .int (S 0 1), .int (S 0 2), .int (S 0 3), .int (S 0 4), .int (S 0 5), .int (S 0 6), .int (S 0 7), .ref (g 7)])), (g 1, .inl (cA, 6, .inl (S 1))), (g 2, .inl (cA, 6, .inl (S 2))), (g 3, .inl (cA, 6, .inl (S 3))), (g 4, .inl (cA, 6, .inl (S 4))), (g 5, .inl (cA, 6, .inl (S 5))), (g 6, .inl (cA, 6, .inl (S 6))), (g 7, .inl (cA, 36, .inl (S 7)))] H := hP
                  have hD : va_D A [(a, .inr (0, [.ref b, .ref (d 0), .ref (d 1), .ref (d 2), .ref (d 3), .ref (d 4), .ref (d 5), .ref (d 6), .ref (d 7), .ref (d 8), .ref (d 9), .ref (d 10)])), (d 0, .inl (cA, 6, .inl (P 0))), (d 1, .inl (cA, 6, .inl (P 1))), (d 2, .inl (cA, 6, .inl (P 2))), (d 3, .inl (cA, 6, .inl (P 3))), (d 4, .inl (cA, 6, .inl (upd (P 4) k.toNatClampNeg f_41))), (d 5, .inl (cA, 6, .inl (upd (P 5) k.toNatClampNeg f_45))), (d 6, .inl (cA, 6, .inl (upd (P 6) k.toNatClampNeg 1))), (d 7, .inl (cA, 6, .inl (upd (P 7) k.toNatClampNeg 1))), (d 8, .inl (cA, 7, .inl (upd (P 8) f_46.toNatClampNeg f_49))), (d 9, .inl (cA, 7, .inl (upd (P 9) f_50.toNatClampNeg f_55))), (d 10, .inl (cA, 7, .inl (upd (P 10) f_56.toNatClampNeg f_59))), (b, .inr (2, [.int (S 0 0), .ref (g 1), .ref (g 2), .ref (g 3), .ref (g 4), .ref (g 5), .ref (g 6), .int (S 0 1), .int (S 0 2), .int (S 0 3), .int (S 0 4), .int (S 0 5), .int (S 0 6), .int (S 0 7), .ref (g 7)])), (g 1, .inl (cA, 6, .inl (S 1))), (g 2, .inl (cA, 6, .inl (S 2))), (g 3, .inl (cA, 6, .inl (S 3))), (g 4, .inl (cA, 6, .inl (S 4))), (g 5, .inl (cA, 6, .inl (S 5))), (g 6, .inl (cA, 6, .inl (S 6))), (g 7, .inl (cA, 36, .inl (S 7)))] := hD
                  have e9 : r_Plan_castStep S P k q = (tb [P 0, P 1, P 2, P 3, upd (P 4) k.toNatClampNeg f_41, upd (P 5) k.toNatClampNeg f_45, upd (P 6) k.toNatClampNeg 1, upd (P 7) k.toNatClampNeg 1, upd (P 8) f_46.toNatClampNeg f_49, upd (P 9) f_50.toNatClampNeg f_55, upd (P 10) f_56.toNatClampNeg f_59]) := by
                    subst ef_28 ef_29 ef_30 ef_36 ef_37 ef_38 ef_39 ef_40 ef_41 ef_42 ef_43 ef_44 ef_45 ef_46 ef_47 ef_48 ef_49 ef_50 ef_51 ef_52 ef_53 ef_54 ef_55 ef_56 ef_57 ef_59; unfold r_Plan_castStep; simp only [if_neg c_1, if_neg c_27, if_pos c_31, if_neg c_32, if_pos c_33, if_pos c_34, if_neg c_35, if_pos c_58]
                  exact W.vret hx hb hr (fun t ht hW => ⟨⟨(), rfl, trivial, (by rw [e9, ht]; exact hP.sub [0, 1, 2, 3, 4, 5, 6, 7, 8, 9, 10, 11, 12, 13, 14, 15, 16, 17, 18, 19] rfl), (by rw [e9]; exact hD.sub [0, 1, 2, 3, 4, 5, 6, 7, 8, 9, 10, 11, 12, 13, 14, 15, 16, 17, 18, 19] (by decide) rfl)⟩, hS.F ht⟩) hS.2.2 d_Plan_castStep_261
                · exact absurd c_58 (by decide)
            · exact absurd c_34 (by decide)
      · skip
        refine lv_aload_n hx hb d_Plan_castStep_46 rfl (lv_at hl 2 rfl) ?_
        refine lv_iload_n hx hb d_Plan_castStep_47 rfl (lv_at hl 4 rfl) ?_
        refine lv_iload_n hx hb d_Plan_castStep_48 rfl (lv_at hl 3 rfl) ?_
        refine hr_callV (C := R_Plan) (T := T_Plan) (N := 12) (As := [.int q, .int k]) (rest := []) ⟨hx, hb, hml, hown, hts⟩ (k_Plan_goesOn l D cA cZ cL a d b g S P q k hp hb6 hk) (bv_V 2 hts mb_259 (hts _ mb_4) (hts _ mb_256) (hts _ mb_258) (hts _ mbp_3) (by decide +kernel) ⟨Nat.le_of_ble_eq_true rfl, Nat.le_of_ble_eq_true rfl⟩) hK hZ hP [0, 1, 2, 3, 4, 5, 6, 7, 8, 9, 10, 11, 12, 13, 14, 15, 16, 17, 18, 19] rfl 0 0 rfl rfl rfl hl.1 rfl (lv_room (Nat.le_of_ble_eq_true rfl)) d_Plan_castStep_49 ⟨Nat.zero_le _, Nat.zero_le _⟩ ?_
        refine lv_topi (fun f_60 ef_60 => ?_)
        refine lv_if_eq (tgt := 59) hx hb d_Plan_castStep_52 (by decide) (fun c_61 => ?_) (fun c_61 => ?_)
        · skip
          refine lv_iconst (v := 0) hx hb d_Plan_castStep_59 (by decide) ?_
          refine lv_istore (lv' := [(5, .int 0), (4, .int f_30), (3, .int 1), (0, .ref a), (1, .int k), (2, .int q)]) hx hb d_Plan_castStep_60 hl (by decide) rfl (fun ls hl => ?_)
          refine lv_aload_n hx hb d_Plan_castStep_62 rfl (lv_at hl 3 rfl) ?_
          refine va_get (D := D) (ci := 0) (v := .ref (d 6)) (C := R_Plan) (T := T_Plan) (N := 12) hx hb hts i_Plan hown hK hP 0 rfl rfl 7 (by decide) (hts _ mb_124) (fun _ h9 => h9) rfl d_Plan_castStep_63 ?_
          refine lv_iload_n hx hb d_Plan_castStep_66 rfl (lv_at hl 4 rfl) ?_
          refine lv_iload_n hx hb d_Plan_castStep_67 rfl (lv_at hl 2 rfl) ?_
          refine lv_if_eq (tgt := 80) hx hb d_Plan_castStep_68 (by decide) (fun c_62 => ?_) (fun c_62 => ?_)
          · exact absurd c_62 (by decide)
          · skip
            refine lv_iload hx hb d_Plan_castStep_71 (lv_at hl 0 rfl) ?_
            refine lv_if_ne (tgt := 80) hx hb d_Plan_castStep_73 (by decide) (fun c_63 => ?_) (fun c_63 => ?_)
            · exact absurd c_63 (by decide)
            · skip
              refine lv_iconst (v := 1) hx hb d_Plan_castStep_76 (by decide) ?_
              refine lv_goto (tgt := 81) hx hb d_Plan_castStep_77 (by decide) ?_
              refine va_iast hx hb hK hP hD hS 7 0 rfl rfl hk d_Plan_castStep_81 (fun H locs hP hD hS => ?_)
              have hP : va_P D cls [(a, .inr (0, [.ref b, .ref (d 0), .ref (d 1), .ref (d 2), .ref (d 3), .ref (d 4), .ref (d 5), .ref (d 6), .ref (d 7), .ref (d 8), .ref (d 9), .ref (d 10)])), (d 0, .inl (cA, 6, .inl (P 0))), (d 1, .inl (cA, 6, .inl (P 1))), (d 2, .inl (cA, 6, .inl (P 2))), (d 3, .inl (cA, 6, .inl (P 3))), (d 4, .inl (cA, 6, .inl (P 4))), (d 5, .inl (cA, 6, .inl (P 5))), (d 6, .inl (cA, 6, .inl (upd (P 6) k.toNatClampNeg 1))), (d 7, .inl (cA, 6, .inl (P 7))), (d 8, .inl (cA, 7, .inl (P 8))), (d 9, .inl (cA, 7, .inl (P 9))), (d 10, .inl (cA, 7, .inl (P 10))), (b, .inr (2, [.int (S 0 0), .ref (g 1), .ref (g 2), .ref (g 3), .ref (g 4), .ref (g 5), .ref (g 6), .int (S 0 1), .int (S 0 2), .int (S 0 3), .int (S 0 4), .int (S 0 5), .int (S 0 6), .int (S 0 7), .ref (g 7)])), (g 1, .inl (cA, 6, .inl (S 1))), (g 2, .inl (cA, 6, .inl (S 2))), (g 3, .inl (cA, 6, .inl (S 3))), (g 4, .inl (cA, 6, .inl (S 4))), (g 5, .inl (cA, 6, .inl (S 5))), (g 6, .inl (cA, 6, .inl (S 6))), (g 7, .inl (cA, 36, .inl (S 7)))] H := hP
              have hD : va_D A [(a, .inr (0, [.ref b, .ref (d 0), .ref (d 1), .ref (d 2), .ref (d 3), .ref (d 4), .ref (d 5), .ref (d 6), .ref (d 7), .ref (d 8), .ref (d 9), .ref (d 10)])), (d 0, .inl (cA, 6, .inl (P 0))), (d 1, .inl (cA, 6, .inl (P 1))), (d 2, .inl (cA, 6, .inl (P 2))), (d 3, .inl (cA, 6, .inl (P 3))), (d 4, .inl (cA, 6, .inl (P 4))), (d 5, .inl (cA, 6, .inl (P 5))), (d 6, .inl (cA, 6, .inl (upd (P 6) k.toNatClampNeg 1))), (d 7, .inl (cA, 6, .inl (P 7))), (d 8, .inl (cA, 7, .inl (P 8))), (d 9, .inl (cA, 7, .inl (P 9))), (d 10, .inl (cA, 7, .inl (P 10))), (b, .inr (2, [.int (S 0 0), .ref (g 1), .ref (g 2), .ref (g 3), .ref (g 4), .ref (g 5), .ref (g 6), .int (S 0 1), .int (S 0 2), .int (S 0 3), .int (S 0 4), .int (S 0 5), .int (S 0 6), .int (S 0 7), .ref (g 7)])), (g 1, .inl (cA, 6, .inl (S 1))), (g 2, .inl (cA, 6, .inl (S 2))), (g 3, .inl (cA, 6, .inl (S 3))), (g 4, .inl (cA, 6, .inl (S 4))), (g 5, .inl (cA, 6, .inl (S 5))), (g 6, .inl (cA, 6, .inl (S 6))), (g 7, .inl (cA, 36, .inl (S 7)))] := hD
              refine lv_aload_n hx hb d_Plan_castStep_82 rfl (lv_at hl 3 rfl) ?_
              refine va_get (D := D) (ci := 0) (v := .ref (d 7)) (C := R_Plan) (T := T_Plan) (N := 12) hx hb hts i_Plan hown hK hP 0 rfl rfl 8 (by decide) (hts _ mb_126) (fun _ h9 => h9) rfl d_Plan_castStep_83 ?_
              refine lv_iload_n hx hb d_Plan_castStep_86 rfl (lv_at hl 4 rfl) ?_
              refine lv_iload hx hb d_Plan_castStep_87 (lv_at hl 0 rfl) ?_
              refine lv_if_eq (tgt := 103) hx hb d_Plan_castStep_89 (by decide) (fun c_64 => ?_) (fun c_64 => ?_)
              · skip
                refine lv_iconst (v := 1) hx hb d_Plan_castStep_103 (by decide) ?_
                refine va_iast hx hb hK hP hD hS 8 0 rfl rfl hk d_Plan_castStep_104 (fun H locs hP hD hS => ?_)
                have hP : va_P D cls [(a, .inr (0, [.ref b, .ref (d 0), .ref (d 1), .ref (d 2), .ref (d 3), .ref (d 4), .ref (d 5), .ref (d 6), .ref (d 7), .ref (d 8), .ref (d 9), .ref (d 10)])), (d 0, .inl (cA, 6, .inl (P 0))), (d 1, .inl (cA, 6, .inl (P 1))), (d 2, .inl (cA, 6, .inl (P 2))), (d 3, .inl (cA, 6, .inl (P 3))), (d 4, .inl (cA, 6, .inl (P 4))), (d 5, .inl (cA, 6, .inl (P 5))), (d 6, .inl (cA, 6, .inl (upd (P 6) k.toNatClampNeg 1))), (d 7, .inl (cA, 6, .inl (upd (P 7) k.toNatClampNeg 1))), (d 8, .inl (cA, 7, .inl (P 8))), (d 9, .inl (cA, 7, .inl (P 9))), (d 10, .inl (cA, 7, .inl (P 10))), (b, .inr (2, [.int (S 0 0), .ref (g 1), .ref (g 2), .ref (g 3), .ref (g 4), .ref (g 5), .ref (g 6), .int (S 0 1), .int (S 0 2), .int (S 0 3), .int (S 0 4), .int (S 0 5), .int (S 0 6), .int (S 0 7), .ref (g 7)])), (g 1, .inl (cA, 6, .inl (S 1))), (g 2, .inl (cA, 6, .inl (S 2))), (g 3, .inl (cA, 6, .inl (S 3))), (g 4, .inl (cA, 6, .inl (S 4))), (g 5, .inl (cA, 6, .inl (S 5))), (g 6, .inl (cA, 6, .inl (S 6))), (g 7, .inl (cA, 36, .inl (S 7)))] H := hP
                have hD : va_D A [(a, .inr (0, [.ref b, .ref (d 0), .ref (d 1), .ref (d 2), .ref (d 3), .ref (d 4), .ref (d 5), .ref (d 6), .ref (d 7), .ref (d 8), .ref (d 9), .ref (d 10)])), (d 0, .inl (cA, 6, .inl (P 0))), (d 1, .inl (cA, 6, .inl (P 1))), (d 2, .inl (cA, 6, .inl (P 2))), (d 3, .inl (cA, 6, .inl (P 3))), (d 4, .inl (cA, 6, .inl (P 4))), (d 5, .inl (cA, 6, .inl (P 5))), (d 6, .inl (cA, 6, .inl (upd (P 6) k.toNatClampNeg 1))), (d 7, .inl (cA, 6, .inl (upd (P 7) k.toNatClampNeg 1))), (d 8, .inl (cA, 7, .inl (P 8))), (d 9, .inl (cA, 7, .inl (P 9))), (d 10, .inl (cA, 7, .inl (P 10))), (b, .inr (2, [.int (S 0 0), .ref (g 1), .ref (g 2), .ref (g 3), .ref (g 4), .ref (g 5), .ref (g 6), .int (S 0 1), .int (S 0 2), .int (S 0 3), .int (S 0 4), .int (S 0 5), .int (S 0 6), .int (S 0 7), .ref (g 7)])), (g 1, .inl (cA, 6, .inl (S 1))), (g 2, .inl (cA, 6, .inl (S 2))), (g 3, .inl (cA, 6, .inl (S 3))), (g 4, .inl (cA, 6, .inl (S 4))), (g 5, .inl (cA, 6, .inl (S 5))), (g 6, .inl (cA, 6, .inl (S 6))), (g 7, .inl (cA, 36, .inl (S 7)))] := hD
                refine lv_iload_n hx hb d_Plan_castStep_105 rfl (lv_at hl 2 rfl) ?_
                refine lv_if_eq (tgt := 133) hx hb d_Plan_castStep_106 (by decide) (fun c_65 => ?_) (fun c_65 => ?_)
                · exact absurd c_65 (by decide)
                · skip
                  refine lv_aload_n hx hb d_Plan_castStep_109 rfl (lv_at hl 3 rfl) ?_
                  refine va_get (D := D) (ci := 0) (v := .ref (d 5)) (C := R_Plan) (T := T_Plan) (N := 12) hx hb hts i_Plan hown hK hP 0 rfl rfl 6 (by decide) (hts _ mb_122) (fun _ h9 => h9) rfl d_Plan_castStep_110 ?_
                  refine lv_iload_n hx hb d_Plan_castStep_113 rfl (lv_at hl 5 rfl) ?_
                  refine va_iald hx hb hK hP 6 0 rfl rfl hb6 d_Plan_castStep_114 ?_
                  refine lv_topi (fun f_66 ef_66 => ?_)
                  refine lv_aload_n hx hb d_Plan_castStep_115 rfl (lv_at hl 3 rfl) ?_
                  refine va_get (D := D) (ci := 0) (v := .ref (d 6)) (C := R_Plan) (T := T_Plan) (N := 12) hx hb hts i_Plan hown hK hP 0 rfl rfl 7 (by decide) (hts _ mb_124) (fun _ h9 => h9) rfl d_Plan_castStep_116 ?_
                  refine lv_iload_n hx hb d_Plan_castStep_119 rfl (lv_at hl 4 rfl) ?_
                  refine va_iald hx hb hK hP 7 0 rfl rfl hk d_Plan_castStep_120 ?_
                  refine lv_topi (fun f_67 ef_67 => ?_)
                  refine lv_aload_n hx hb d_Plan_castStep_121 rfl (lv_at hl 3 rfl) ?_
                  refine va_get (D := D) (ci := 0) (v := .ref b) (C := R_Plan) (T := T_Plan) (N := 12) hx hb hts i_Plan hown hK hP 0 rfl rfl 0 (by decide) (hts _ mb_111) (fun _ h9 => h9) rfl d_Plan_castStep_122 ?_
                  refine va_get (D := D) (ci := 2) (v := .int (S 0 2)) (C := R_Shop) (T := T_Shop) (N := 15) hx hb hts i_Shop hown hK hP 12 rfl rfl 8 (by decide) (hts _ mb_49) (fun _ h9 => h9) rfl d_Plan_castStep_125 ?_
                  refine lv_imul hx hb d_Plan_castStep_128 ?_
                  refine lv_topi (fun f_68 ef_68 => ?_)
                  refine lv_iadd hx hb d_Plan_castStep_129 ?_
                  refine lv_topi (fun f_69 ef_69 => ?_)
                  refine lv_goto (tgt := 134) hx hb d_Plan_castStep_130 (by decide) ?_
                  refine lv_istore (lv' := [(6, .int f_69), (5, .int 0), (4, .int f_30), (3, .int 1), (0, .ref a), (1, .int k), (2, .int q)]) hx hb d_Plan_castStep_134 hl (by decide) rfl (fun ls hl => ?_)
                  refine lv_aload_n hx hb d_Plan_castStep_136 rfl (lv_at hl 4 rfl) ?_
                  refine va_get (D := D) (ci := 0) (v := .ref (d 4)) (C := R_Plan) (T := T_Plan) (N := 12) hx hb hts i_Plan hown hK hP 0 rfl rfl 5 (by decide) (hts _ mb_120) (fun _ h9 => h9) rfl d_Plan_castStep_137 ?_
                  refine lv_iload_n hx hb d_Plan_castStep_140 rfl (lv_at hl 5 rfl) ?_
                  refine lv_aload_n hx hb d_Plan_castStep_141 rfl (lv_at hl 4 rfl) ?_
                  refine va_get (D := D) (ci := 0) (v := .ref (d 3)) (C := R_Plan) (T := T_Plan) (N := 12) hx hb hts i_Plan hown hK hP 0 rfl rfl 4 (by decide) (hts _ mb_118) (fun _ h9 => h9) rfl d_Plan_castStep_142 ?_
                  refine lv_iload_n hx hb d_Plan_castStep_145 rfl (lv_at hl 5 rfl) ?_
                  refine va_iald hx hb hK hP 4 0 rfl rfl hk d_Plan_castStep_146 ?_
                  refine lv_topi (fun f_70 ef_70 => ?_)
                  refine lv_iload hx hb d_Plan_castStep_147 (lv_at hl 0 rfl) ?_
                  refine va_mmax hx hb (hml.trans hl.1.symm) hown (hts _ mb_263) (hts _ mb_215) (hts _ mb_12) (hts _ mb_216) (Nat.le_of_ble_eq_true rfl) (Nat.le_of_ble_eq_true rfl) (Nat.zero_le _) (Nat.zero_le _) d_Plan_castStep_149 ?_
                  refine lv_topi (fun f_71 ef_71 => ?_)
                  refine va_iast hx hb hK hP hD hS 5 0 rfl rfl hk d_Plan_castStep_152 (fun H locs hP hD hS => ?_)
                  have hP : va_P D cls [(a, .inr (0, [.ref b, .ref (d 0), .ref (d 1), .ref (d 2), .ref (d 3), .ref (d 4), .ref (d 5), .ref (d 6), .ref (d 7), .ref (d 8), .ref (d 9), .ref (d 10)])), (d 0, .inl (cA, 6, .inl (P 0))), (d 1, .inl (cA, 6, .inl (P 1))), (d 2, .inl (cA, 6, .inl (P 2))), (d 3, .inl (cA, 6, .inl (P 3))), (d 4, .inl (cA, 6, .inl (upd (P 4) k.toNatClampNeg f_71))), (d 5, .inl (cA, 6, .inl (P 5))), (d 6, .inl (cA, 6, .inl (upd (P 6) k.toNatClampNeg 1))), (d 7, .inl (cA, 6, .inl (upd (P 7) k.toNatClampNeg 1))), (d 8, .inl (cA, 7, .inl (P 8))), (d 9, .inl (cA, 7, .inl (P 9))), (d 10, .inl (cA, 7, .inl (P 10))), (b, .inr (2, [.int (S 0 0), .ref (g 1), .ref (g 2), .ref (g 3), .ref (g 4), .ref (g 5), .ref (g 6), .int (S 0 1), .int (S 0 2), .int (S 0 3), .int (S 0 4), .int (S 0 5), .int (S 0 6), .int (S 0 7), .ref (g 7)])), (g 1, .inl (cA, 6, .inl (S 1))), (g 2, .inl (cA, 6, .inl (S 2))), (g 3, .inl (cA, 6, .inl (S 3))), (g 4, .inl (cA, 6, .inl (S 4))), (g 5, .inl (cA, 6, .inl (S 5))), (g 6, .inl (cA, 6, .inl (S 6))), (g 7, .inl (cA, 36, .inl (S 7)))] H := hP
                  have hD : va_D A [(a, .inr (0, [.ref b, .ref (d 0), .ref (d 1), .ref (d 2), .ref (d 3), .ref (d 4), .ref (d 5), .ref (d 6), .ref (d 7), .ref (d 8), .ref (d 9), .ref (d 10)])), (d 0, .inl (cA, 6, .inl (P 0))), (d 1, .inl (cA, 6, .inl (P 1))), (d 2, .inl (cA, 6, .inl (P 2))), (d 3, .inl (cA, 6, .inl (P 3))), (d 4, .inl (cA, 6, .inl (upd (P 4) k.toNatClampNeg f_71))), (d 5, .inl (cA, 6, .inl (P 5))), (d 6, .inl (cA, 6, .inl (upd (P 6) k.toNatClampNeg 1))), (d 7, .inl (cA, 6, .inl (upd (P 7) k.toNatClampNeg 1))), (d 8, .inl (cA, 7, .inl (P 8))), (d 9, .inl (cA, 7, .inl (P 9))), (d 10, .inl (cA, 7, .inl (P 10))), (b, .inr (2, [.int (S 0 0), .ref (g 1), .ref (g 2), .ref (g 3), .ref (g 4), .ref (g 5), .ref (g 6), .int (S 0 1), .int (S 0 2), .int (S 0 3), .int (S 0 4), .int (S 0 5), .int (S 0 6), .int (S 0 7), .ref (g 7)])), (g 1, .inl (cA, 6, .inl (S 1))), (g 2, .inl (cA, 6, .inl (S 2))), (g 3, .inl (cA, 6, .inl (S 3))), (g 4, .inl (cA, 6, .inl (S 4))), (g 5, .inl (cA, 6, .inl (S 5))), (g 6, .inl (cA, 6, .inl (S 6))), (g 7, .inl (cA, 36, .inl (S 7)))] := hD
                  refine lv_aload_n hx hb d_Plan_castStep_153 rfl (lv_at hl 4 rfl) ?_
                  refine va_get (D := D) (ci := 0) (v := .ref (d 5)) (C := R_Plan) (T := T_Plan) (N := 12) hx hb hts i_Plan hown hK hP 0 rfl rfl 6 (by decide) (hts _ mb_122) (fun _ h9 => h9) rfl d_Plan_castStep_154 ?_
                  refine lv_iload_n hx hb d_Plan_castStep_157 rfl (lv_at hl 5 rfl) ?_
                  refine lv_aload_n hx hb d_Plan_castStep_158 rfl (lv_at hl 4 rfl) ?_
                  refine va_get (D := D) (ci := 0) (v := .ref (d 4)) (C := R_Plan) (T := T_Plan) (N := 12) hx hb hts i_Plan hown hK hP 0 rfl rfl 5 (by decide) (hts _ mb_120) (fun _ h9 => h9) rfl d_Plan_castStep_159 ?_
                  refine lv_iload_n hx hb d_Plan_castStep_162 rfl (lv_at hl 5 rfl) ?_
                  refine va_iald hx hb hK hP 5 0 rfl rfl hk d_Plan_castStep_163 ?_
                  refine lv_topi (fun f_72 ef_72 => ?_)
                  refine lv_aload_n hx hb d_Plan_castStep_164 rfl (lv_at hl 4 rfl) ?_
                  refine va_get (D := D) (ci := 0) (v := .ref b) (C := R_Plan) (T := T_Plan) (N := 12) hx hb hts i_Plan hown hK hP 0 rfl rfl 0 (by decide) (hts _ mb_111) (fun _ h9 => h9) rfl d_Plan_castStep_165 ?_
                  refine va_get (D := D) (ci := 2) (v := .ref (g 4)) (C := R_Shop) (T := T_Shop) (N := 15) hx hb hts i_Shop hown hK hP 12 rfl rfl 4 (by decide) (hts _ mb_39) (fun _ h9 => h9) rfl d_Plan_castStep_168 ?_
                  refine lv_aload_n hx hb d_Plan_castStep_171 rfl (lv_at hl 4 rfl) ?_
                  refine va_get (D := D) (ci := 0) (v := .ref (d 0)) (C := R_Plan) (T := T_Plan) (N := 12) hx hb hts i_Plan hown hK hP 0 rfl rfl 1 (by decide) (hts _ mb_112) (fun _ h9 => h9) rfl d_Plan_castStep_172 ?_
                  refine lv_iload_n hx hb d_Plan_castStep_175 rfl (lv_at hl 5 rfl) ?_
                  refine va_iald hx hb hK hP 1 0 rfl rfl hk d_Plan_castStep_176 ?_
                  refine lv_topi (fun f_73 ef_73 => ?_)
                  refine va_iald hx hb hK hP 16 0 rfl rfl (by rw [ef_73]; exact hp _) d_Plan_castStep_177 ?_
                  refine lv_topi (fun f_74 ef_74 => ?_)
                  refine lv_iadd hx hb d_Plan_castStep_178 ?_
                  refine lv_topi (fun f_75 ef_75 => ?_)
                  refine va_iast hx hb hK hP hD hS 6 0 rfl rfl hk d_Plan_castStep_179 (fun H locs hP hD hS => ?_)
                  have hP : va_P D cls [(a, .inr (0, [.ref b, .ref (d 0), .ref (d 1), .ref (d 2), .ref (d 3), .ref (d 4), .ref (d 5), .ref (d 6), .ref (d 7), .ref (d 8), .ref (d 9), .ref (d 10)])), (d 0, .inl (cA, 6, .inl (P 0))), (d 1, .inl (cA, 6, .inl (P 1))), (d 2, .inl (cA, 6, .inl (P 2))), (d 3, .inl (cA, 6, .inl (P 3))), (d 4, .inl (cA, 6, .inl (upd (P 4) k.toNatClampNeg f_71))), (d 5, .inl (cA, 6, .inl (upd (P 5) k.toNatClampNeg f_75))), (d 6, .inl (cA, 6, .inl (upd (P 6) k.toNatClampNeg 1))), (d 7, .inl (cA, 6, .inl (upd (P 7) k.toNatClampNeg 1))), (d 8, .inl (cA, 7, .inl (P 8))), (d 9, .inl (cA, 7, .inl (P 9))), (d 10, .inl (cA, 7, .inl (P 10))), (b, .inr (2, [.int (S 0 0), .ref (g 1), .ref (g 2), .ref (g 3), .ref (g 4), .ref (g 5), .ref (g 6), .int (S 0 1), .int (S 0 2), .int (S 0 3), .int (S 0 4), .int (S 0 5), .int (S 0 6), .int (S 0 7), .ref (g 7)])), (g 1, .inl (cA, 6, .inl (S 1))), (g 2, .inl (cA, 6, .inl (S 2))), (g 3, .inl (cA, 6, .inl (S 3))), (g 4, .inl (cA, 6, .inl (S 4))), (g 5, .inl (cA, 6, .inl (S 5))), (g 6, .inl (cA, 6, .inl (S 6))), (g 7, .inl (cA, 36, .inl (S 7)))] H := hP
                  have hD : va_D A [(a, .inr (0, [.ref b, .ref (d 0), .ref (d 1), .ref (d 2), .ref (d 3), .ref (d 4), .ref (d 5), .ref (d 6), .ref (d 7), .ref (d 8), .ref (d 9), .ref (d 10)])), (d 0, .inl (cA, 6, .inl (P 0))), (d 1, .inl (cA, 6, .inl (P 1))), (d 2, .inl (cA, 6, .inl (P 2))), (d 3, .inl (cA, 6, .inl (P 3))), (d 4, .inl (cA, 6, .inl (upd (P 4) k.toNatClampNeg f_71))), (d 5, .inl (cA, 6, .inl (upd (P 5) k.toNatClampNeg f_75))), (d 6, .inl (cA, 6, .inl (upd (P 6) k.toNatClampNeg 1))), (d 7, .inl (cA, 6, .inl (upd (P 7) k.toNatClampNeg 1))), (d 8, .inl (cA, 7, .inl (P 8))), (d 9, .inl (cA, 7, .inl (P 9))), (d 10, .inl (cA, 7, .inl (P 10))), (b, .inr (2, [.int (S 0 0), .ref (g 1), .ref (g 2), .ref (g 3), .ref (g 4), .ref (g 5), .ref (g 6), .int (S 0 1), .int (S 0 2), .int (S 0 3), .int (S 0 4), .int (S 0 5), .int (S 0 6), .int (S 0 7), .ref (g 7)])), (g 1, .inl (cA, 6, .inl (S 1))), (g 2, .inl (cA, 6, .inl (S 2))), (g 3, .inl (cA, 6, .inl (S 3))), (g 4, .inl (cA, 6, .inl (S 4))), (g 5, .inl (cA, 6, .inl (S 5))), (g 6, .inl (cA, 6, .inl (S 6))), (g 7, .inl (cA, 36, .inl (S 7)))] := hD
                  refine lv_aload_n hx hb d_Plan_castStep_180 rfl (lv_at hl 4 rfl) ?_
                  refine va_get (D := D) (ci := 0) (v := .ref (d 8)) (C := R_Plan) (T := T_Plan) (N := 12) hx hb hts i_Plan hown hK hP 0 rfl rfl 9 (by decide) (hts _ mb_127) (fun _ h9 => h9) rfl d_Plan_castStep_181 ?_
                  refine lv_iload_n hx hb d_Plan_castStep_184 rfl (lv_at hl 5 rfl) ?_
                  refine lv_iconst (v := 1) hx hb d_Plan_castStep_185 (by decide) ?_
                  refine lv_iadd hx hb d_Plan_castStep_186 ?_
                  refine lv_topi (fun f_76 ef_76 => ?_)
                  refine lv_aload_n hx hb d_Plan_castStep_187 rfl (lv_at hl 4 rfl) ?_
                  refine va_get (D := D) (ci := 0) (v := .ref (d 8)) (C := R_Plan) (T := T_Plan) (N := 12) hx hb hts i_Plan hown hK hP 0 rfl rfl 9 (by decide) (hts _ mb_127) (fun _ h9 => h9) rfl d_Plan_castStep_188 ?_
                  refine lv_iload_n hx hb d_Plan_castStep_191 rfl (lv_at hl 5 rfl) ?_
                  refine va_iald hx hb hK hP 9 0 rfl rfl (in_le hk (by decide)) d_Plan_castStep_192 ?_
                  refine lv_topi (fun f_77 ef_77 => ?_)
                  refine lv_aload_n hx hb d_Plan_castStep_193 rfl (lv_at hl 4 rfl) ?_
                  refine va_get (D := D) (ci := 0) (v := .ref (d 6)) (C := R_Plan) (T := T_Plan) (N := 12) hx hb hts i_Plan hown hK hP 0 rfl rfl 7 (by decide) (hts _ mb_124) (fun _ h9 => h9) rfl d_Plan_castStep_194 ?_
                  refine lv_iload_n hx hb d_Plan_castStep_197 rfl (lv_at hl 5 rfl) ?_
                  refine va_iald hx hb hK hP 7 0 rfl rfl hk d_Plan_castStep_198 ?_
                  refine lv_topi (fun f_78 ef_78 => ?_)
                  refine lv_iadd hx hb d_Plan_castStep_199 ?_
                  refine lv_topi (fun f_79 ef_79 => ?_)
                  refine va_iast hx hb hK hP hD hS 9 0 rfl rfl (by rw [ef_76]; exact in_s hk (by decide)) d_Plan_castStep_200 (fun H locs hP hD hS => ?_)
                  have hP : va_P D cls [(a, .inr (0, [.ref b, .ref (d 0), .ref (d 1), .ref (d 2), .ref (d 3), .ref (d 4), .ref (d 5), .ref (d 6), .ref (d 7), .ref (d 8), .ref (d 9), .ref (d 10)])), (d 0, .inl (cA, 6, .inl (P 0))), (d 1, .inl (cA, 6, .inl (P 1))), (d 2, .inl (cA, 6, .inl (P 2))), (d 3, .inl (cA, 6, .inl (P 3))), (d 4, .inl (cA, 6, .inl (upd (P 4) k.toNatClampNeg f_71))), (d 5, .inl (cA, 6, .inl (upd (P 5) k.toNatClampNeg f_75))), (d 6, .inl (cA, 6, .inl (upd (P 6) k.toNatClampNeg 1))), (d 7, .inl (cA, 6, .inl (upd (P 7) k.toNatClampNeg 1))), (d 8, .inl (cA, 7, .inl (upd (P 8) f_76.toNatClampNeg f_79))), (d 9, .inl (cA, 7, .inl (P 9))), (d 10, .inl (cA, 7, .inl (P 10))), (b, .inr (2, [.int (S 0 0), .ref (g 1), .ref (g 2), .ref (g 3), .ref (g 4), .ref (g 5), .ref (g 6), .int (S 0 1), .int (S 0 2), .int (S 0 3), .int (S 0 4), .int (S 0 5), .int (S 0 6), .int (S 0 7), .ref (g 7)])), (g 1, .inl (cA, 6, .inl (S 1))), (g 2, .inl (cA, 6, .inl (S 2))), (g 3, .inl (cA, 6, .inl (S 3))), (g 4, .inl (cA, 6, .inl (S 4))), (g 5, .inl (cA, 6, .inl (S 5))), (g 6, .inl (cA, 6, .inl (S 6))), (g 7, .inl (cA, 36, .inl (S 7)))] H := hP
                  have hD : va_D A [(a, .inr (0, [.ref b, .ref (d 0), .ref (d 1), .ref (d 2), .ref (d 3), .ref (d 4), .ref (d 5), .ref (d 6), .ref (d 7), .ref (d 8), .ref (d 9), .ref (d 10)])), (d 0, .inl (cA, 6, .inl (P 0))), (d 1, .inl (cA, 6, .inl (P 1))), (d 2, .inl (cA, 6, .inl (P 2))), (d 3, .inl (cA, 6, .inl (P 3))), (d 4, .inl (cA, 6, .inl (upd (P 4) k.toNatClampNeg f_71))), (d 5, .inl (cA, 6, .inl (upd (P 5) k.toNatClampNeg f_75))), (d 6, .inl (cA, 6, .inl (upd (P 6) k.toNatClampNeg 1))), (d 7, .inl (cA, 6, .inl (upd (P 7) k.toNatClampNeg 1))), (d 8, .inl (cA, 7, .inl (upd (P 8) f_76.toNatClampNeg f_79))), (d 9, .inl (cA, 7, .inl (P 9))), (d 10, .inl (cA, 7, .inl (P 10))), (b, .inr (2, [.int (S 0 0), .ref (g 1), .ref (g 2), .ref (g 3), .ref (g 4), .ref (g 5), .ref (g 6), .int (S 0 1), .int (S 0 2), .int (S 0 3), .int (S 0 4), .int (S 0 5), .int (S 0 6), .int (S 0 7), .ref (g 7)])), (g 1, .inl (cA, 6, .inl (S 1))), (g 2, .inl (cA, 6, .inl (S 2))), (g 3, .inl (cA, 6, .inl (S 3))), (g 4, .inl (cA, 6, .inl (S 4))), (g 5, .inl (cA, 6, .inl (S 5))), (g 6, .inl (cA, 6, .inl (S 6))), (g 7, .inl (cA, 36, .inl (S 7)))] := hD
                  refine lv_aload_n hx hb d_Plan_castStep_201 rfl (lv_at hl 4 rfl) ?_
                  refine va_get (D := D) (ci := 0) (v := .ref (d 9)) (C := R_Plan) (T := T_Plan) (N := 12) hx hb hts i_Plan hown hK hP 0 rfl rfl 10 (by decide) (hts _ mb_129) (fun _ h9 => h9) rfl d_Plan_castStep_202 ?_
                  refine lv_iload_n hx hb d_Plan_castStep_205 rfl (lv_at hl 5 rfl) ?_
                  refine lv_iconst (v := 1) hx hb d_Plan_castStep_206 (by decide) ?_
                  refine lv_iadd hx hb d_Plan_castStep_207 ?_
                  refine lv_topi (fun f_80 ef_80 => ?_)
                  refine lv_aload_n hx hb d_Plan_castStep_208 rfl (lv_at hl 4 rfl) ?_
                  refine va_get (D := D) (ci := 0) (v := .ref (d 9)) (C := R_Plan) (T := T_Plan) (N := 12) hx hb hts i_Plan hown hK hP 0 rfl rfl 10 (by decide) (hts _ mb_129) (fun _ h9 => h9) rfl d_Plan_castStep_209 ?_
                  refine lv_iload_n hx hb d_Plan_castStep_212 rfl (lv_at hl 5 rfl) ?_
                  refine va_iald hx hb hK hP 10 0 rfl rfl (in_le hk (by decide)) d_Plan_castStep_213 ?_
                  refine lv_topi (fun f_81 ef_81 => ?_)
                  refine lv_aload_n hx hb d_Plan_castStep_214 rfl (lv_at hl 4 rfl) ?_
                  refine va_get (D := D) (ci := 0) (v := .ref b) (C := R_Plan) (T := T_Plan) (N := 12) hx hb hts i_Plan hown hK hP 0 rfl rfl 0 (by decide) (hts _ mb_111) (fun _ h9 => h9) rfl d_Plan_castStep_215 ?_
                  refine lv_aload_n hx hb d_Plan_castStep_218 rfl (lv_at hl 4 rfl) ?_
                  refine va_get (D := D) (ci := 0) (v := .ref (d 0)) (C := R_Plan) (T := T_Plan) (N := 12) hx hb hts i_Plan hown hK hP 0 rfl rfl 1 (by decide) (hts _ mb_112) (fun _ h9 => h9) rfl d_Plan_castStep_219 ?_
                  refine lv_iload_n hx hb d_Plan_castStep_222 rfl (lv_at hl 5 rfl) ?_
                  refine va_iald hx hb hK hP 1 0 rfl rfl hk d_Plan_castStep_223 ?_
                  refine lv_topi (fun f_82 ef_82 => ?_)
                  refine lv_aload_n hx hb d_Plan_castStep_224 rfl (lv_at hl 4 rfl) ?_
                  refine va_get (D := D) (ci := 0) (v := .ref (d 5)) (C := R_Plan) (T := T_Plan) (N := 12) hx hb hts i_Plan hown hK hP 0 rfl rfl 6 (by decide) (hts _ mb_122) (fun _ h9 => h9) rfl d_Plan_castStep_225 ?_
                  refine lv_iload_n hx hb d_Plan_castStep_228 rfl (lv_at hl 5 rfl) ?_
                  refine va_iald hx hb hK hP 6 0 rfl rfl hk d_Plan_castStep_229 ?_
                  refine lv_topi (fun f_83 ef_83 => ?_)
                  refine hr_callV (C := R_Shop) (T := T_Shop) (N := 15) (As := [.int f_82, .int f_83]) (rest := [.int f_81, .int f_80, .ref (d 9)]) ⟨hx, hb, hml, hown, hts⟩ (k_Shop_lateMinutes l D cA cZ cL b g S f_82 f_83 (by rw [ef_82]; exact hp _)) (bv_V 2 hts mb_213 (hts _ mb_2) (hts _ mb_264) (hts _ mb_211) (hts _ mb_212) (by decide +kernel) ⟨Nat.le_of_ble_eq_true rfl, Nat.le_of_ble_eq_true rfl⟩) hK hZ hP [12, 13, 14, 15, 16, 17, 18, 19] rfl 12 2 rfl rfl rfl hl.1 rfl (lv_room (Nat.le_of_ble_eq_true rfl)) d_Plan_castStep_230 ⟨Nat.zero_le _, Nat.zero_le _⟩ ?_
                  refine lv_topi (fun f_84 ef_84 => ?_)
                  refine lv_iadd hx hb d_Plan_castStep_233 ?_
                  refine lv_topi (fun f_85 ef_85 => ?_)
                  refine va_iast hx hb hK hP hD hS 10 0 rfl rfl (by rw [ef_80]; exact in_s hk (by decide)) d_Plan_castStep_234 (fun H locs hP hD hS => ?_)
                  have hP : va_P D cls [(a, .inr (0, [.ref b, .ref (d 0), .ref (d 1), .ref (d 2), .ref (d 3), .ref (d 4), .ref (d 5), .ref (d 6), .ref (d 7), .ref (d 8), .ref (d 9), .ref (d 10)])), (d 0, .inl (cA, 6, .inl (P 0))), (d 1, .inl (cA, 6, .inl (P 1))), (d 2, .inl (cA, 6, .inl (P 2))), (d 3, .inl (cA, 6, .inl (P 3))), (d 4, .inl (cA, 6, .inl (upd (P 4) k.toNatClampNeg f_71))), (d 5, .inl (cA, 6, .inl (upd (P 5) k.toNatClampNeg f_75))), (d 6, .inl (cA, 6, .inl (upd (P 6) k.toNatClampNeg 1))), (d 7, .inl (cA, 6, .inl (upd (P 7) k.toNatClampNeg 1))), (d 8, .inl (cA, 7, .inl (upd (P 8) f_76.toNatClampNeg f_79))), (d 9, .inl (cA, 7, .inl (upd (P 9) f_80.toNatClampNeg f_85))), (d 10, .inl (cA, 7, .inl (P 10))), (b, .inr (2, [.int (S 0 0), .ref (g 1), .ref (g 2), .ref (g 3), .ref (g 4), .ref (g 5), .ref (g 6), .int (S 0 1), .int (S 0 2), .int (S 0 3), .int (S 0 4), .int (S 0 5), .int (S 0 6), .int (S 0 7), .ref (g 7)])), (g 1, .inl (cA, 6, .inl (S 1))), (g 2, .inl (cA, 6, .inl (S 2))), (g 3, .inl (cA, 6, .inl (S 3))), (g 4, .inl (cA, 6, .inl (S 4))), (g 5, .inl (cA, 6, .inl (S 5))), (g 6, .inl (cA, 6, .inl (S 6))), (g 7, .inl (cA, 36, .inl (S 7)))] H := hP
                  have hD : va_D A [(a, .inr (0, [.ref b, .ref (d 0), .ref (d 1), .ref (d 2), .ref (d 3), .ref (d 4), .ref (d 5), .ref (d 6), .ref (d 7), .ref (d 8), .ref (d 9), .ref (d 10)])), (d 0, .inl (cA, 6, .inl (P 0))), (d 1, .inl (cA, 6, .inl (P 1))), (d 2, .inl (cA, 6, .inl (P 2))), (d 3, .inl (cA, 6, .inl (P 3))), (d 4, .inl (cA, 6, .inl (upd (P 4) k.toNatClampNeg f_71))), (d 5, .inl (cA, 6, .inl (upd (P 5) k.toNatClampNeg f_75))), (d 6, .inl (cA, 6, .inl (upd (P 6) k.toNatClampNeg 1))), (d 7, .inl (cA, 6, .inl (upd (P 7) k.toNatClampNeg 1))), (d 8, .inl (cA, 7, .inl (upd (P 8) f_76.toNatClampNeg f_79))), (d 9, .inl (cA, 7, .inl (upd (P 9) f_80.toNatClampNeg f_85))), (d 10, .inl (cA, 7, .inl (P 10))), (b, .inr (2, [.int (S 0 0), .ref (g 1), .ref (g 2), .ref (g 3), .ref (g 4), .ref (g 5), .ref (g 6), .int (S 0 1), .int (S 0 2), .int (S 0 3), .int (S 0 4), .int (S 0 5), .int (S 0 6), .int (S 0 7), .ref (g 7)])), (g 1, .inl (cA, 6, .inl (S 1))), (g 2, .inl (cA, 6, .inl (S 2))), (g 3, .inl (cA, 6, .inl (S 3))), (g 4, .inl (cA, 6, .inl (S 4))), (g 5, .inl (cA, 6, .inl (S 5))), (g 6, .inl (cA, 6, .inl (S 6))), (g 7, .inl (cA, 36, .inl (S 7)))] := hD
                  refine lv_aload_n hx hb d_Plan_castStep_235 rfl (lv_at hl 4 rfl) ?_
                  refine va_get (D := D) (ci := 0) (v := .ref (d 10)) (C := R_Plan) (T := T_Plan) (N := 12) hx hb hts i_Plan hown hK hP 0 rfl rfl 11 (by decide) (hts _ mb_131) (fun _ h9 => h9) rfl d_Plan_castStep_236 ?_
                  refine lv_iload_n hx hb d_Plan_castStep_239 rfl (lv_at hl 5 rfl) ?_
                  refine lv_iconst (v := 1) hx hb d_Plan_castStep_240 (by decide) ?_
                  refine lv_iadd hx hb d_Plan_castStep_241 ?_
                  refine lv_topi (fun f_86 ef_86 => ?_)
                  refine lv_aload_n hx hb d_Plan_castStep_242 rfl (lv_at hl 4 rfl) ?_
                  refine va_get (D := D) (ci := 0) (v := .ref (d 10)) (C := R_Plan) (T := T_Plan) (N := 12) hx hb hts i_Plan hown hK hP 0 rfl rfl 11 (by decide) (hts _ mb_131) (fun _ h9 => h9) rfl d_Plan_castStep_243 ?_
                  refine lv_iload_n hx hb d_Plan_castStep_246 rfl (lv_at hl 5 rfl) ?_
                  refine va_iald hx hb hK hP 11 0 rfl rfl (in_le hk (by decide)) d_Plan_castStep_247 ?_
                  refine lv_topi (fun f_87 ef_87 => ?_)
                  refine lv_iload hx hb d_Plan_castStep_248 (lv_at hl 1 rfl) ?_
                  refine lv_if_eq (tgt := 258) hx hb d_Plan_castStep_250 (by decide) (fun c_88 => ?_) (fun c_88 => ?_)
                  · skip
                    refine lv_iconst (v := 0) hx hb d_Plan_castStep_258 (by decide) ?_
                    refine lv_iadd hx hb d_Plan_castStep_259 ?_
                    refine lv_topi (fun f_89 ef_89 => ?_)
                    refine va_iast hx hb hK hP hD hS 11 0 rfl rfl (by rw [ef_86]; exact in_s hk (by decide)) d_Plan_castStep_260 (fun H locs hP hD hS => ?_)
                    have hP : va_P D cls [(a, .inr (0, [.ref b, .ref (d 0), .ref (d 1), .ref (d 2), .ref (d 3), .ref (d 4), .ref (d 5), .ref (d 6), .ref (d 7), .ref (d 8), .ref (d 9), .ref (d 10)])), (d 0, .inl (cA, 6, .inl (P 0))), (d 1, .inl (cA, 6, .inl (P 1))), (d 2, .inl (cA, 6, .inl (P 2))), (d 3, .inl (cA, 6, .inl (P 3))), (d 4, .inl (cA, 6, .inl (upd (P 4) k.toNatClampNeg f_71))), (d 5, .inl (cA, 6, .inl (upd (P 5) k.toNatClampNeg f_75))), (d 6, .inl (cA, 6, .inl (upd (P 6) k.toNatClampNeg 1))), (d 7, .inl (cA, 6, .inl (upd (P 7) k.toNatClampNeg 1))), (d 8, .inl (cA, 7, .inl (upd (P 8) f_76.toNatClampNeg f_79))), (d 9, .inl (cA, 7, .inl (upd (P 9) f_80.toNatClampNeg f_85))), (d 10, .inl (cA, 7, .inl (upd (P 10) f_86.toNatClampNeg f_89))), (b, .inr (2, [.int (S 0 0), .ref (g 1), .ref (g 2), .ref (g 3), .ref (g 4), .ref (g 5), .ref (g 6), .int (S 0 1), .int (S 0 2), .int (S 0 3), .int (S 0 4), .int (S 0 5), .int (S 0 6), .int (S 0 7), .ref (g 7)])), (g 1, .inl (cA, 6, .inl (S 1))), (g 2, .inl (cA, 6, .inl (S 2))), (g 3, .inl (cA, 6, .inl (S 3))), (g 4, .inl (cA, 6, .inl (S 4))), (g 5, .inl (cA, 6, .inl (S 5))), (g 6, .inl (cA, 6, .inl (S 6))), (g 7, .inl (cA, 36, .inl (S 7)))] H := hP
                    have hD : va_D A [(a, .inr (0, [.ref b, .ref (d 0), .ref (d 1), .ref (d 2), .ref (d 3), .ref (d 4), .ref (d 5), .ref (d 6), .ref (d 7), .ref (d 8), .ref (d 9), .ref (d 10)])), (d 0, .inl (cA, 6, .inl (P 0))), (d 1, .inl (cA, 6, .inl (P 1))), (d 2, .inl (cA, 6, .inl (P 2))), (d 3, .inl (cA, 6, .inl (P 3))), (d 4, .inl (cA, 6, .inl (upd (P 4) k.toNatClampNeg f_71))), (d 5, .inl (cA, 6, .inl (upd (P 5) k.toNatClampNeg f_75))), (d 6, .inl (cA, 6, .inl (upd (P 6) k.toNatClampNeg 1))), (d 7, .inl (cA, 6, .inl (upd (P 7) k.toNatClampNeg 1))), (d 8, .inl (cA, 7, .inl (upd (P 8) f_76.toNatClampNeg f_79))), (d 9, .inl (cA, 7, .inl (upd (P 9) f_80.toNatClampNeg f_85))), (d 10, .inl (cA, 7, .inl (upd (P 10) f_86.toNatClampNeg f_89))), (b, .inr (2, [.int (S 0 0), .ref (g 1), .ref (g 2), .ref (g 3), .ref (g 4), .ref (g 5), .ref (g 6), .int (S 0 1), .int (S 0 2), .int (S 0 3), .int (S 0 4), .int (S 0 5), .int (S 0 6), .int (S 0 7), .ref (g 7)])), (g 1, .inl (cA, 6, .inl (S 1))), (g 2, .inl (cA, 6, .inl (S 2))), (g 3, .inl (cA, 6, .inl (S 3))), (g 4, .inl (cA, 6, .inl (S 4))), (g 5, .inl (cA, 6, .inl (S 5))), (g 6, .inl (cA, 6, .inl (S 6))), (g 7, .inl (cA, 36, .inl (S 7)))] := hD
                    have e9 : r_Plan_castStep S P k q = (tb [P 0, P 1, P 2, P 3, upd (P 4) k.toNatClampNeg f_71, upd (P 5) k.toNatClampNeg f_75, upd (P 6) k.toNatClampNeg 1, upd (P 7) k.toNatClampNeg 1, upd (P 8) f_76.toNatClampNeg f_79, upd (P 9) f_80.toNatClampNeg f_85, upd (P 10) f_86.toNatClampNeg f_89]) := by
                      subst ef_28 ef_29 ef_30 ef_60 ef_66 ef_67 ef_68 ef_69 ef_70 ef_71 ef_72 ef_73 ef_74 ef_75 ef_76 ef_77 ef_78 ef_79 ef_80 ef_81 ef_82 ef_83 ef_84 ef_85 ef_86 ef_87 ef_89; unfold r_Plan_castStep; simp only [if_neg c_1, if_neg c_27, if_neg c_31, if_pos c_61, if_neg c_62, if_pos c_63, if_pos c_64, if_neg c_65, if_pos c_88]
                    exact W.vret hx hb hr (fun t ht hW => ⟨⟨(), rfl, trivial, (by rw [e9, ht]; exact hP.sub [0, 1, 2, 3, 4, 5, 6, 7, 8, 9, 10, 11, 12, 13, 14, 15, 16, 17, 18, 19] rfl), (by rw [e9]; exact hD.sub [0, 1, 2, 3, 4, 5, 6, 7, 8, 9, 10, 11, 12, 13, 14, 15, 16, 17, 18, 19] (by decide) rfl)⟩, hS.F ht⟩) hS.2.2 d_Plan_castStep_261
                  · exact absurd c_88 (by decide)
              · exact absurd c_64 (by decide)
        · skip
          refine lv_iconst (v := 1) hx hb d_Plan_castStep_55 (by decide) ?_
          refine lv_goto (tgt := 60) hx hb d_Plan_castStep_56 (by decide) ?_
          refine lv_istore (lv' := [(5, .int 1), (4, .int f_30), (3, .int 1), (0, .ref a), (1, .int k), (2, .int q)]) hx hb d_Plan_castStep_60 hl (by decide) rfl (fun ls hl => ?_)
          refine lv_aload_n hx hb d_Plan_castStep_62 rfl (lv_at hl 3 rfl) ?_
          refine va_get (D := D) (ci := 0) (v := .ref (d 6)) (C := R_Plan) (T := T_Plan) (N := 12) hx hb hts i_Plan hown hK hP 0 rfl rfl 7 (by decide) (hts _ mb_124) (fun _ h9 => h9) rfl d_Plan_castStep_63 ?_
          refine lv_iload_n hx hb d_Plan_castStep_66 rfl (lv_at hl 4 rfl) ?_
          refine lv_iload_n hx hb d_Plan_castStep_67 rfl (lv_at hl 2 rfl) ?_
          refine lv_if_eq (tgt := 80) hx hb d_Plan_castStep_68 (by decide) (fun c_90 => ?_) (fun c_90 => ?_)
          · exact absurd c_90 (by decide)
          · skip
            refine lv_iload hx hb d_Plan_castStep_71 (lv_at hl 0 rfl) ?_
            refine lv_if_ne (tgt := 80) hx hb d_Plan_castStep_73 (by decide) (fun c_91 => ?_) (fun c_91 => ?_)
            · skip
              refine lv_iconst (v := 0) hx hb d_Plan_castStep_80 (by decide) ?_
              refine va_iast hx hb hK hP hD hS 7 0 rfl rfl hk d_Plan_castStep_81 (fun H locs hP hD hS => ?_)
              have hP : va_P D cls [(a, .inr (0, [.ref b, .ref (d 0), .ref (d 1), .ref (d 2), .ref (d 3), .ref (d 4), .ref (d 5), .ref (d 6), .ref (d 7), .ref (d 8), .ref (d 9), .ref (d 10)])), (d 0, .inl (cA, 6, .inl (P 0))), (d 1, .inl (cA, 6, .inl (P 1))), (d 2, .inl (cA, 6, .inl (P 2))), (d 3, .inl (cA, 6, .inl (P 3))), (d 4, .inl (cA, 6, .inl (P 4))), (d 5, .inl (cA, 6, .inl (P 5))), (d 6, .inl (cA, 6, .inl (upd (P 6) k.toNatClampNeg 0))), (d 7, .inl (cA, 6, .inl (P 7))), (d 8, .inl (cA, 7, .inl (P 8))), (d 9, .inl (cA, 7, .inl (P 9))), (d 10, .inl (cA, 7, .inl (P 10))), (b, .inr (2, [.int (S 0 0), .ref (g 1), .ref (g 2), .ref (g 3), .ref (g 4), .ref (g 5), .ref (g 6), .int (S 0 1), .int (S 0 2), .int (S 0 3), .int (S 0 4), .int (S 0 5), .int (S 0 6), .int (S 0 7), .ref (g 7)])), (g 1, .inl (cA, 6, .inl (S 1))), (g 2, .inl (cA, 6, .inl (S 2))), (g 3, .inl (cA, 6, .inl (S 3))), (g 4, .inl (cA, 6, .inl (S 4))), (g 5, .inl (cA, 6, .inl (S 5))), (g 6, .inl (cA, 6, .inl (S 6))), (g 7, .inl (cA, 36, .inl (S 7)))] H := hP
              have hD : va_D A [(a, .inr (0, [.ref b, .ref (d 0), .ref (d 1), .ref (d 2), .ref (d 3), .ref (d 4), .ref (d 5), .ref (d 6), .ref (d 7), .ref (d 8), .ref (d 9), .ref (d 10)])), (d 0, .inl (cA, 6, .inl (P 0))), (d 1, .inl (cA, 6, .inl (P 1))), (d 2, .inl (cA, 6, .inl (P 2))), (d 3, .inl (cA, 6, .inl (P 3))), (d 4, .inl (cA, 6, .inl (P 4))), (d 5, .inl (cA, 6, .inl (P 5))), (d 6, .inl (cA, 6, .inl (upd (P 6) k.toNatClampNeg 0))), (d 7, .inl (cA, 6, .inl (P 7))), (d 8, .inl (cA, 7, .inl (P 8))), (d 9, .inl (cA, 7, .inl (P 9))), (d 10, .inl (cA, 7, .inl (P 10))), (b, .inr (2, [.int (S 0 0), .ref (g 1), .ref (g 2), .ref (g 3), .ref (g 4), .ref (g 5), .ref (g 6), .int (S 0 1), .int (S 0 2), .int (S 0 3), .int (S 0 4), .int (S 0 5), .int (S 0 6), .int (S 0 7), .ref (g 7)])), (g 1, .inl (cA, 6, .inl (S 1))), (g 2, .inl (cA, 6, .inl (S 2))), (g 3, .inl (cA, 6, .inl (S 3))), (g 4, .inl (cA, 6, .inl (S 4))), (g 5, .inl (cA, 6, .inl (S 5))), (g 6, .inl (cA, 6, .inl (S 6))), (g 7, .inl (cA, 36, .inl (S 7)))] := hD
              refine lv_aload_n hx hb d_Plan_castStep_82 rfl (lv_at hl 3 rfl) ?_
              refine va_get (D := D) (ci := 0) (v := .ref (d 7)) (C := R_Plan) (T := T_Plan) (N := 12) hx hb hts i_Plan hown hK hP 0 rfl rfl 8 (by decide) (hts _ mb_126) (fun _ h9 => h9) rfl d_Plan_castStep_83 ?_
              refine lv_iload_n hx hb d_Plan_castStep_86 rfl (lv_at hl 4 rfl) ?_
              refine lv_iload hx hb d_Plan_castStep_87 (lv_at hl 0 rfl) ?_
              refine lv_if_eq (tgt := 103) hx hb d_Plan_castStep_89 (by decide) (fun c_92 => ?_) (fun c_92 => ?_)
              · exact absurd c_92 (by decide)
              · skip
                refine lv_aload_n hx hb d_Plan_castStep_92 rfl (lv_at hl 3 rfl) ?_
                refine va_get (D := D) (ci := 0) (v := .ref (d 7)) (C := R_Plan) (T := T_Plan) (N := 12) hx hb hts i_Plan hown hK hP 0 rfl rfl 8 (by decide) (hts _ mb_126) (fun _ h9 => h9) rfl d_Plan_castStep_93 ?_
                refine lv_iload_n hx hb d_Plan_castStep_96 rfl (lv_at hl 5 rfl) ?_
                refine va_iald hx hb hK hP 8 0 rfl rfl hb6 d_Plan_castStep_97 ?_
                refine lv_topi (fun f_93 ef_93 => ?_)
                refine lv_iconst (v := 1) hx hb d_Plan_castStep_98 (by decide) ?_
                refine lv_iadd hx hb d_Plan_castStep_99 ?_
                refine lv_topi (fun f_94 ef_94 => ?_)
                refine lv_goto (tgt := 104) hx hb d_Plan_castStep_100 (by decide) ?_
                refine va_iast hx hb hK hP hD hS 8 0 rfl rfl hk d_Plan_castStep_104 (fun H locs hP hD hS => ?_)
                have hP : va_P D cls [(a, .inr (0, [.ref b, .ref (d 0), .ref (d 1), .ref (d 2), .ref (d 3), .ref (d 4), .ref (d 5), .ref (d 6), .ref (d 7), .ref (d 8), .ref (d 9), .ref (d 10)])), (d 0, .inl (cA, 6, .inl (P 0))), (d 1, .inl (cA, 6, .inl (P 1))), (d 2, .inl (cA, 6, .inl (P 2))), (d 3, .inl (cA, 6, .inl (P 3))), (d 4, .inl (cA, 6, .inl (P 4))), (d 5, .inl (cA, 6, .inl (P 5))), (d 6, .inl (cA, 6, .inl (upd (P 6) k.toNatClampNeg 0))), (d 7, .inl (cA, 6, .inl (upd (P 7) k.toNatClampNeg f_94))), (d 8, .inl (cA, 7, .inl (P 8))), (d 9, .inl (cA, 7, .inl (P 9))), (d 10, .inl (cA, 7, .inl (P 10))), (b, .inr (2, [.int (S 0 0), .ref (g 1), .ref (g 2), .ref (g 3), .ref (g 4), .ref (g 5), .ref (g 6), .int (S 0 1), .int (S 0 2), .int (S 0 3), .int (S 0 4), .int (S 0 5), .int (S 0 6), .int (S 0 7), .ref (g 7)])), (g 1, .inl (cA, 6, .inl (S 1))), (g 2, .inl (cA, 6, .inl (S 2))), (g 3, .inl (cA, 6, .inl (S 3))), (g 4, .inl (cA, 6, .inl (S 4))), (g 5, .inl (cA, 6, .inl (S 5))), (g 6, .inl (cA, 6, .inl (S 6))), (g 7, .inl (cA, 36, .inl (S 7)))] H := hP
                have hD : va_D A [(a, .inr (0, [.ref b, .ref (d 0), .ref (d 1), .ref (d 2), .ref (d 3), .ref (d 4), .ref (d 5), .ref (d 6), .ref (d 7), .ref (d 8), .ref (d 9), .ref (d 10)])), (d 0, .inl (cA, 6, .inl (P 0))), (d 1, .inl (cA, 6, .inl (P 1))), (d 2, .inl (cA, 6, .inl (P 2))), (d 3, .inl (cA, 6, .inl (P 3))), (d 4, .inl (cA, 6, .inl (P 4))), (d 5, .inl (cA, 6, .inl (P 5))), (d 6, .inl (cA, 6, .inl (upd (P 6) k.toNatClampNeg 0))), (d 7, .inl (cA, 6, .inl (upd (P 7) k.toNatClampNeg f_94))), (d 8, .inl (cA, 7, .inl (P 8))), (d 9, .inl (cA, 7, .inl (P 9))), (d 10, .inl (cA, 7, .inl (P 10))), (b, .inr (2, [.int (S 0 0), .ref (g 1), .ref (g 2), .ref (g 3), .ref (g 4), .ref (g 5), .ref (g 6), .int (S 0 1), .int (S 0 2), .int (S 0 3), .int (S 0 4), .int (S 0 5), .int (S 0 6), .int (S 0 7), .ref (g 7)])), (g 1, .inl (cA, 6, .inl (S 1))), (g 2, .inl (cA, 6, .inl (S 2))), (g 3, .inl (cA, 6, .inl (S 3))), (g 4, .inl (cA, 6, .inl (S 4))), (g 5, .inl (cA, 6, .inl (S 5))), (g 6, .inl (cA, 6, .inl (S 6))), (g 7, .inl (cA, 36, .inl (S 7)))] := hD
                refine lv_iload_n hx hb d_Plan_castStep_105 rfl (lv_at hl 2 rfl) ?_
                refine lv_if_eq (tgt := 133) hx hb d_Plan_castStep_106 (by decide) (fun c_95 => ?_) (fun c_95 => ?_)
                · exact absurd c_95 (by decide)
                · skip
                  refine lv_aload_n hx hb d_Plan_castStep_109 rfl (lv_at hl 3 rfl) ?_
                  refine va_get (D := D) (ci := 0) (v := .ref (d 5)) (C := R_Plan) (T := T_Plan) (N := 12) hx hb hts i_Plan hown hK hP 0 rfl rfl 6 (by decide) (hts _ mb_122) (fun _ h9 => h9) rfl d_Plan_castStep_110 ?_
                  refine lv_iload_n hx hb d_Plan_castStep_113 rfl (lv_at hl 5 rfl) ?_
                  refine va_iald hx hb hK hP 6 0 rfl rfl hb6 d_Plan_castStep_114 ?_
                  refine lv_topi (fun f_96 ef_96 => ?_)
                  refine lv_aload_n hx hb d_Plan_castStep_115 rfl (lv_at hl 3 rfl) ?_
                  refine va_get (D := D) (ci := 0) (v := .ref (d 6)) (C := R_Plan) (T := T_Plan) (N := 12) hx hb hts i_Plan hown hK hP 0 rfl rfl 7 (by decide) (hts _ mb_124) (fun _ h9 => h9) rfl d_Plan_castStep_116 ?_
                  refine lv_iload_n hx hb d_Plan_castStep_119 rfl (lv_at hl 4 rfl) ?_
                  refine va_iald hx hb hK hP 7 0 rfl rfl hk d_Plan_castStep_120 ?_
                  refine lv_topi (fun f_97 ef_97 => ?_)
                  refine lv_aload_n hx hb d_Plan_castStep_121 rfl (lv_at hl 3 rfl) ?_
                  refine va_get (D := D) (ci := 0) (v := .ref b) (C := R_Plan) (T := T_Plan) (N := 12) hx hb hts i_Plan hown hK hP 0 rfl rfl 0 (by decide) (hts _ mb_111) (fun _ h9 => h9) rfl d_Plan_castStep_122 ?_
                  refine va_get (D := D) (ci := 2) (v := .int (S 0 2)) (C := R_Shop) (T := T_Shop) (N := 15) hx hb hts i_Shop hown hK hP 12 rfl rfl 8 (by decide) (hts _ mb_49) (fun _ h9 => h9) rfl d_Plan_castStep_125 ?_
                  refine lv_imul hx hb d_Plan_castStep_128 ?_
                  refine lv_topi (fun f_98 ef_98 => ?_)
                  refine lv_iadd hx hb d_Plan_castStep_129 ?_
                  refine lv_topi (fun f_99 ef_99 => ?_)
                  refine lv_goto (tgt := 134) hx hb d_Plan_castStep_130 (by decide) ?_
                  refine lv_istore (lv' := [(6, .int f_99), (5, .int 1), (4, .int f_30), (3, .int 1), (0, .ref a), (1, .int k), (2, .int q)]) hx hb d_Plan_castStep_134 hl (by decide) rfl (fun ls hl => ?_)
                  refine lv_aload_n hx hb d_Plan_castStep_136 rfl (lv_at hl 4 rfl) ?_
                  refine va_get (D := D) (ci := 0) (v := .ref (d 4)) (C := R_Plan) (T := T_Plan) (N := 12) hx hb hts i_Plan hown hK hP 0 rfl rfl 5 (by decide) (hts _ mb_120) (fun _ h9 => h9) rfl d_Plan_castStep_137 ?_
                  refine lv_iload_n hx hb d_Plan_castStep_140 rfl (lv_at hl 5 rfl) ?_
                  refine lv_aload_n hx hb d_Plan_castStep_141 rfl (lv_at hl 4 rfl) ?_
                  refine va_get (D := D) (ci := 0) (v := .ref (d 3)) (C := R_Plan) (T := T_Plan) (N := 12) hx hb hts i_Plan hown hK hP 0 rfl rfl 4 (by decide) (hts _ mb_118) (fun _ h9 => h9) rfl d_Plan_castStep_142 ?_
                  refine lv_iload_n hx hb d_Plan_castStep_145 rfl (lv_at hl 5 rfl) ?_
                  refine va_iald hx hb hK hP 4 0 rfl rfl hk d_Plan_castStep_146 ?_
                  refine lv_topi (fun f_100 ef_100 => ?_)
                  refine lv_iload hx hb d_Plan_castStep_147 (lv_at hl 0 rfl) ?_
                  refine va_mmax hx hb (hml.trans hl.1.symm) hown (hts _ mb_263) (hts _ mb_215) (hts _ mb_12) (hts _ mb_216) (Nat.le_of_ble_eq_true rfl) (Nat.le_of_ble_eq_true rfl) (Nat.zero_le _) (Nat.zero_le _) d_Plan_castStep_149 ?_
                  refine lv_topi (fun f_101 ef_101 => ?_)
                  refine va_iast hx hb hK hP hD hS 5 0 rfl rfl hk d_Plan_castStep_152 (fun H locs hP hD hS => ?_)
                  have hP : va_P D cls [(a, .inr (0, [.ref b, .ref (d 0), .ref (d 1), .ref (d 2), .ref (d 3), .ref (d 4), .ref (d 5), .ref (d 6), .ref (d 7), .ref (d 8), .ref (d 9), .ref (d 10)])), (d 0, .inl (cA, 6, .inl (P 0))), (d 1, .inl (cA, 6, .inl (P 1))), (d 2, .inl (cA, 6, .inl (P 2))), (d 3, .inl (cA, 6, .inl (P 3))), (d 4, .inl (cA, 6, .inl (upd (P 4) k.toNatClampNeg f_101))), (d 5, .inl (cA, 6, .inl (P 5))), (d 6, .inl (cA, 6, .inl (upd (P 6) k.toNatClampNeg 0))), (d 7, .inl (cA, 6, .inl (upd (P 7) k.toNatClampNeg f_94))), (d 8, .inl (cA, 7, .inl (P 8))), (d 9, .inl (cA, 7, .inl (P 9))), (d 10, .inl (cA, 7, .inl (P 10))), (b, .inr (2, [.int (S 0 0), .ref (g 1), .ref (g 2), .ref (g 3), .ref (g 4), .ref (g 5), .ref (g 6), .int (S 0 1), .int (S 0 2), .int (S 0 3), .int (S 0 4), .int (S 0 5), .int (S 0 6), .int (S 0 7), .ref (g 7)])), (g 1, .inl (cA, 6, .inl (S 1))), (g 2, .inl (cA, 6, .inl (S 2))), (g 3, .inl (cA, 6, .inl (S 3))), (g 4, .inl (cA, 6, .inl (S 4))), (g 5, .inl (cA, 6, .inl (S 5))), (g 6, .inl (cA, 6, .inl (S 6))), (g 7, .inl (cA, 36, .inl (S 7)))] H := hP
                  have hD : va_D A [(a, .inr (0, [.ref b, .ref (d 0), .ref (d 1), .ref (d 2), .ref (d 3), .ref (d 4), .ref (d 5), .ref (d 6), .ref (d 7), .ref (d 8), .ref (d 9), .ref (d 10)])), (d 0, .inl (cA, 6, .inl (P 0))), (d 1, .inl (cA, 6, .inl (P 1))), (d 2, .inl (cA, 6, .inl (P 2))), (d 3, .inl (cA, 6, .inl (P 3))), (d 4, .inl (cA, 6, .inl (upd (P 4) k.toNatClampNeg f_101))), (d 5, .inl (cA, 6, .inl (P 5))), (d 6, .inl (cA, 6, .inl (upd (P 6) k.toNatClampNeg 0))), (d 7, .inl (cA, 6, .inl (upd (P 7) k.toNatClampNeg f_94))), (d 8, .inl (cA, 7, .inl (P 8))), (d 9, .inl (cA, 7, .inl (P 9))), (d 10, .inl (cA, 7, .inl (P 10))), (b, .inr (2, [.int (S 0 0), .ref (g 1), .ref (g 2), .ref (g 3), .ref (g 4), .ref (g 5), .ref (g 6), .int (S 0 1), .int (S 0 2), .int (S 0 3), .int (S 0 4), .int (S 0 5), .int (S 0 6), .int (S 0 7), .ref (g 7)])), (g 1, .inl (cA, 6, .inl (S 1))), (g 2, .inl (cA, 6, .inl (S 2))), (g 3, .inl (cA, 6, .inl (S 3))), (g 4, .inl (cA, 6, .inl (S 4))), (g 5, .inl (cA, 6, .inl (S 5))), (g 6, .inl (cA, 6, .inl (S 6))), (g 7, .inl (cA, 36, .inl (S 7)))] := hD
                  refine lv_aload_n hx hb d_Plan_castStep_153 rfl (lv_at hl 4 rfl) ?_
                  refine va_get (D := D) (ci := 0) (v := .ref (d 5)) (C := R_Plan) (T := T_Plan) (N := 12) hx hb hts i_Plan hown hK hP 0 rfl rfl 6 (by decide) (hts _ mb_122) (fun _ h9 => h9) rfl d_Plan_castStep_154 ?_
                  refine lv_iload_n hx hb d_Plan_castStep_157 rfl (lv_at hl 5 rfl) ?_
                  refine lv_aload_n hx hb d_Plan_castStep_158 rfl (lv_at hl 4 rfl) ?_
                  refine va_get (D := D) (ci := 0) (v := .ref (d 4)) (C := R_Plan) (T := T_Plan) (N := 12) hx hb hts i_Plan hown hK hP 0 rfl rfl 5 (by decide) (hts _ mb_120) (fun _ h9 => h9) rfl d_Plan_castStep_159 ?_
                  refine lv_iload_n hx hb d_Plan_castStep_162 rfl (lv_at hl 5 rfl) ?_
                  refine va_iald hx hb hK hP 5 0 rfl rfl hk d_Plan_castStep_163 ?_
                  refine lv_topi (fun f_102 ef_102 => ?_)
                  refine lv_aload_n hx hb d_Plan_castStep_164 rfl (lv_at hl 4 rfl) ?_
                  refine va_get (D := D) (ci := 0) (v := .ref b) (C := R_Plan) (T := T_Plan) (N := 12) hx hb hts i_Plan hown hK hP 0 rfl rfl 0 (by decide) (hts _ mb_111) (fun _ h9 => h9) rfl d_Plan_castStep_165 ?_
                  refine va_get (D := D) (ci := 2) (v := .ref (g 4)) (C := R_Shop) (T := T_Shop) (N := 15) hx hb hts i_Shop hown hK hP 12 rfl rfl 4 (by decide) (hts _ mb_39) (fun _ h9 => h9) rfl d_Plan_castStep_168 ?_
                  refine lv_aload_n hx hb d_Plan_castStep_171 rfl (lv_at hl 4 rfl) ?_
                  refine va_get (D := D) (ci := 0) (v := .ref (d 0)) (C := R_Plan) (T := T_Plan) (N := 12) hx hb hts i_Plan hown hK hP 0 rfl rfl 1 (by decide) (hts _ mb_112) (fun _ h9 => h9) rfl d_Plan_castStep_172 ?_
                  refine lv_iload_n hx hb d_Plan_castStep_175 rfl (lv_at hl 5 rfl) ?_
                  refine va_iald hx hb hK hP 1 0 rfl rfl hk d_Plan_castStep_176 ?_
                  refine lv_topi (fun f_103 ef_103 => ?_)
                  refine va_iald hx hb hK hP 16 0 rfl rfl (by rw [ef_103]; exact hp _) d_Plan_castStep_177 ?_
                  refine lv_topi (fun f_104 ef_104 => ?_)
                  refine lv_iadd hx hb d_Plan_castStep_178 ?_
                  refine lv_topi (fun f_105 ef_105 => ?_)
                  refine va_iast hx hb hK hP hD hS 6 0 rfl rfl hk d_Plan_castStep_179 (fun H locs hP hD hS => ?_)
                  have hP : va_P D cls [(a, .inr (0, [.ref b, .ref (d 0), .ref (d 1), .ref (d 2), .ref (d 3), .ref (d 4), .ref (d 5), .ref (d 6), .ref (d 7), .ref (d 8), .ref (d 9), .ref (d 10)])), (d 0, .inl (cA, 6, .inl (P 0))), (d 1, .inl (cA, 6, .inl (P 1))), (d 2, .inl (cA, 6, .inl (P 2))), (d 3, .inl (cA, 6, .inl (P 3))), (d 4, .inl (cA, 6, .inl (upd (P 4) k.toNatClampNeg f_101))), (d 5, .inl (cA, 6, .inl (upd (P 5) k.toNatClampNeg f_105))), (d 6, .inl (cA, 6, .inl (upd (P 6) k.toNatClampNeg 0))), (d 7, .inl (cA, 6, .inl (upd (P 7) k.toNatClampNeg f_94))), (d 8, .inl (cA, 7, .inl (P 8))), (d 9, .inl (cA, 7, .inl (P 9))), (d 10, .inl (cA, 7, .inl (P 10))), (b, .inr (2, [.int (S 0 0), .ref (g 1), .ref (g 2), .ref (g 3), .ref (g 4), .ref (g 5), .ref (g 6), .int (S 0 1), .int (S 0 2), .int (S 0 3), .int (S 0 4), .int (S 0 5), .int (S 0 6), .int (S 0 7), .ref (g 7)])), (g 1, .inl (cA, 6, .inl (S 1))), (g 2, .inl (cA, 6, .inl (S 2))), (g 3, .inl (cA, 6, .inl (S 3))), (g 4, .inl (cA, 6, .inl (S 4))), (g 5, .inl (cA, 6, .inl (S 5))), (g 6, .inl (cA, 6, .inl (S 6))), (g 7, .inl (cA, 36, .inl (S 7)))] H := hP
                  have hD : va_D A [(a, .inr (0, [.ref b, .ref (d 0), .ref (d 1), .ref (d 2), .ref (d 3), .ref (d 4), .ref (d 5), .ref (d 6), .ref (d 7), .ref (d 8), .ref (d 9), .ref (d 10)])), (d 0, .inl (cA, 6, .inl (P 0))), (d 1, .inl (cA, 6, .inl (P 1))), (d 2, .inl (cA, 6, .inl (P 2))), (d 3, .inl (cA, 6, .inl (P 3))), (d 4, .inl (cA, 6, .inl (upd (P 4) k.toNatClampNeg f_101))), (d 5, .inl (cA, 6, .inl (upd (P 5) k.toNatClampNeg f_105))), (d 6, .inl (cA, 6, .inl (upd (P 6) k.toNatClampNeg 0))), (d 7, .inl (cA, 6, .inl (upd (P 7) k.toNatClampNeg f_94))), (d 8, .inl (cA, 7, .inl (P 8))), (d 9, .inl (cA, 7, .inl (P 9))), (d 10, .inl (cA, 7, .inl (P 10))), (b, .inr (2, [.int (S 0 0), .ref (g 1), .ref (g 2), .ref (g 3), .ref (g 4), .ref (g 5), .ref (g 6), .int (S 0 1), .int (S 0 2), .int (S 0 3), .int (S 0 4), .int (S 0 5), .int (S 0 6), .int (S 0 7), .ref (g 7)])), (g 1, .inl (cA, 6, .inl (S 1))), (g 2, .inl (cA, 6, .inl (S 2))), (g 3, .inl (cA, 6, .inl (S 3))), (g 4, .inl (cA, 6, .inl (S 4))), (g 5, .inl (cA, 6, .inl (S 5))), (g 6, .inl (cA, 6, .inl (S 6))), (g 7, .inl (cA, 36, .inl (S 7)))] := hD
                  refine lv_aload_n hx hb d_Plan_castStep_180 rfl (lv_at hl 4 rfl) ?_
                  refine va_get (D := D) (ci := 0) (v := .ref (d 8)) (C := R_Plan) (T := T_Plan) (N := 12) hx hb hts i_Plan hown hK hP 0 rfl rfl 9 (by decide) (hts _ mb_127) (fun _ h9 => h9) rfl d_Plan_castStep_181 ?_
                  refine lv_iload_n hx hb d_Plan_castStep_184 rfl (lv_at hl 5 rfl) ?_
                  refine lv_iconst (v := 1) hx hb d_Plan_castStep_185 (by decide) ?_
                  refine lv_iadd hx hb d_Plan_castStep_186 ?_
                  refine lv_topi (fun f_106 ef_106 => ?_)
                  refine lv_aload_n hx hb d_Plan_castStep_187 rfl (lv_at hl 4 rfl) ?_
                  refine va_get (D := D) (ci := 0) (v := .ref (d 8)) (C := R_Plan) (T := T_Plan) (N := 12) hx hb hts i_Plan hown hK hP 0 rfl rfl 9 (by decide) (hts _ mb_127) (fun _ h9 => h9) rfl d_Plan_castStep_188 ?_
                  refine lv_iload_n hx hb d_Plan_castStep_191 rfl (lv_at hl 5 rfl) ?_
                  refine va_iald hx hb hK hP 9 0 rfl rfl (in_le hk (by decide)) d_Plan_castStep_192 ?_
                  refine lv_topi (fun f_107 ef_107 => ?_)
                  refine lv_aload_n hx hb d_Plan_castStep_193 rfl (lv_at hl 4 rfl) ?_
                  refine va_get (D := D) (ci := 0) (v := .ref (d 6)) (C := R_Plan) (T := T_Plan) (N := 12) hx hb hts i_Plan hown hK hP 0 rfl rfl 7 (by decide) (hts _ mb_124) (fun _ h9 => h9) rfl d_Plan_castStep_194 ?_
                  refine lv_iload_n hx hb d_Plan_castStep_197 rfl (lv_at hl 5 rfl) ?_
                  refine va_iald hx hb hK hP 7 0 rfl rfl hk d_Plan_castStep_198 ?_
                  refine lv_topi (fun f_108 ef_108 => ?_)
                  refine lv_iadd hx hb d_Plan_castStep_199 ?_
                  refine lv_topi (fun f_109 ef_109 => ?_)
                  refine va_iast hx hb hK hP hD hS 9 0 rfl rfl (by rw [ef_106]; exact in_s hk (by decide)) d_Plan_castStep_200 (fun H locs hP hD hS => ?_)
                  have hP : va_P D cls [(a, .inr (0, [.ref b, .ref (d 0), .ref (d 1), .ref (d 2), .ref (d 3), .ref (d 4), .ref (d 5), .ref (d 6), .ref (d 7), .ref (d 8), .ref (d 9), .ref (d 10)])), (d 0, .inl (cA, 6, .inl (P 0))), (d 1, .inl (cA, 6, .inl (P 1))), (d 2, .inl (cA, 6, .inl (P 2))), (d 3, .inl (cA, 6, .inl (P 3))), (d 4, .inl (cA, 6, .inl (upd (P 4) k.toNatClampNeg f_101))), (d 5, .inl (cA, 6, .inl (upd (P 5) k.toNatClampNeg f_105))), (d 6, .inl (cA, 6, .inl (upd (P 6) k.toNatClampNeg 0))), (d 7, .inl (cA, 6, .inl (upd (P 7) k.toNatClampNeg f_94))), (d 8, .inl (cA, 7, .inl (upd (P 8) f_106.toNatClampNeg f_109))), (d 9, .inl (cA, 7, .inl (P 9))), (d 10, .inl (cA, 7, .inl (P 10))), (b, .inr (2, [.int (S 0 0), .ref (g 1), .ref (g 2), .ref (g 3), .ref (g 4), .ref (g 5), .ref (g 6), .int (S 0 1), .int (S 0 2), .int (S 0 3), .int (S 0 4), .int (S 0 5), .int (S 0 6), .int (S 0 7), .ref (g 7)])), (g 1, .inl (cA, 6, .inl (S 1))), (g 2, .inl (cA, 6, .inl (S 2))), (g 3, .inl (cA, 6, .inl (S 3))), (g 4, .inl (cA, 6, .inl (S 4))), (g 5, .inl (cA, 6, .inl (S 5))), (g 6, .inl (cA, 6, .inl (S 6))), (g 7, .inl (cA, 36, .inl (S 7)))] H := hP
                  have hD : va_D A [(a, .inr (0, [.ref b, .ref (d 0), .ref (d 1), .ref (d 2), .ref (d 3), .ref (d 4), .ref (d 5), .ref (d 6), .ref (d 7), .ref (d 8), .ref (d 9), .ref (d 10)])), (d 0, .inl (cA, 6, .inl (P 0))), (d 1, .inl (cA, 6, .inl (P 1))), (d 2, .inl (cA, 6, .inl (P 2))), (d 3, .inl (cA, 6, .inl (P 3))), (d 4, .inl (cA, 6, .inl (upd (P 4) k.toNatClampNeg f_101))), (d 5, .inl (cA, 6, .inl (upd (P 5) k.toNatClampNeg f_105))), (d 6, .inl (cA, 6, .inl (upd (P 6) k.toNatClampNeg 0))), (d 7, .inl (cA, 6, .inl (upd (P 7) k.toNatClampNeg f_94))), (d 8, .inl (cA, 7, .inl (upd (P 8) f_106.toNatClampNeg f_109))), (d 9, .inl (cA, 7, .inl (P 9))), (d 10, .inl (cA, 7, .inl (P 10))), (b, .inr (2, [.int (S 0 0), .ref (g 1), .ref (g 2), .ref (g 3), .ref (g 4), .ref (g 5), .ref (g 6), .int (S 0 1), .int (S 0 2), .int (S 0 3), .int (S 0 4), .int (S 0 5), .int (S 0 6), .int (S 0 7), .ref (g 7)])), (g 1, .inl (cA, 6, .inl (S 1))), (g 2, .inl (cA, 6, .inl (S 2))), (g 3, .inl (cA, 6, .inl (S 3))), (g 4, .inl (cA, 6, .inl (S 4))), (g 5, .inl (cA, 6, .inl (S 5))), (g 6, .inl (cA, 6, .inl (S 6))), (g 7, .inl (cA, 36, .inl (S 7)))] := hD
                  refine lv_aload_n hx hb d_Plan_castStep_201 rfl (lv_at hl 4 rfl) ?_
                  refine va_get (D := D) (ci := 0) (v := .ref (d 9)) (C := R_Plan) (T := T_Plan) (N := 12) hx hb hts i_Plan hown hK hP 0 rfl rfl 10 (by decide) (hts _ mb_129) (fun _ h9 => h9) rfl d_Plan_castStep_202 ?_
                  refine lv_iload_n hx hb d_Plan_castStep_205 rfl (lv_at hl 5 rfl) ?_
                  refine lv_iconst (v := 1) hx hb d_Plan_castStep_206 (by decide) ?_
                  refine lv_iadd hx hb d_Plan_castStep_207 ?_
                  refine lv_topi (fun f_110 ef_110 => ?_)
                  refine lv_aload_n hx hb d_Plan_castStep_208 rfl (lv_at hl 4 rfl) ?_
                  refine va_get (D := D) (ci := 0) (v := .ref (d 9)) (C := R_Plan) (T := T_Plan) (N := 12) hx hb hts i_Plan hown hK hP 0 rfl rfl 10 (by decide) (hts _ mb_129) (fun _ h9 => h9) rfl d_Plan_castStep_209 ?_
                  refine lv_iload_n hx hb d_Plan_castStep_212 rfl (lv_at hl 5 rfl) ?_
                  refine va_iald hx hb hK hP 10 0 rfl rfl (in_le hk (by decide)) d_Plan_castStep_213 ?_
                  refine lv_topi (fun f_111 ef_111 => ?_)
                  refine lv_aload_n hx hb d_Plan_castStep_214 rfl (lv_at hl 4 rfl) ?_
                  refine va_get (D := D) (ci := 0) (v := .ref b) (C := R_Plan) (T := T_Plan) (N := 12) hx hb hts i_Plan hown hK hP 0 rfl rfl 0 (by decide) (hts _ mb_111) (fun _ h9 => h9) rfl d_Plan_castStep_215 ?_
                  refine lv_aload_n hx hb d_Plan_castStep_218 rfl (lv_at hl 4 rfl) ?_
                  refine va_get (D := D) (ci := 0) (v := .ref (d 0)) (C := R_Plan) (T := T_Plan) (N := 12) hx hb hts i_Plan hown hK hP 0 rfl rfl 1 (by decide) (hts _ mb_112) (fun _ h9 => h9) rfl d_Plan_castStep_219 ?_
                  refine lv_iload_n hx hb d_Plan_castStep_222 rfl (lv_at hl 5 rfl) ?_
                  refine va_iald hx hb hK hP 1 0 rfl rfl hk d_Plan_castStep_223 ?_
                  refine lv_topi (fun f_112 ef_112 => ?_)
                  refine lv_aload_n hx hb d_Plan_castStep_224 rfl (lv_at hl 4 rfl) ?_
                  refine va_get (D := D) (ci := 0) (v := .ref (d 5)) (C := R_Plan) (T := T_Plan) (N := 12) hx hb hts i_Plan hown hK hP 0 rfl rfl 6 (by decide) (hts _ mb_122) (fun _ h9 => h9) rfl d_Plan_castStep_225 ?_
                  refine lv_iload_n hx hb d_Plan_castStep_228 rfl (lv_at hl 5 rfl) ?_
                  refine va_iald hx hb hK hP 6 0 rfl rfl hk d_Plan_castStep_229 ?_
                  refine lv_topi (fun f_113 ef_113 => ?_)
                  refine hr_callV (C := R_Shop) (T := T_Shop) (N := 15) (As := [.int f_112, .int f_113]) (rest := [.int f_111, .int f_110, .ref (d 9)]) ⟨hx, hb, hml, hown, hts⟩ (k_Shop_lateMinutes l D cA cZ cL b g S f_112 f_113 (by rw [ef_112]; exact hp _)) (bv_V 2 hts mb_213 (hts _ mb_2) (hts _ mb_264) (hts _ mb_211) (hts _ mb_212) (by decide +kernel) ⟨Nat.le_of_ble_eq_true rfl, Nat.le_of_ble_eq_true rfl⟩) hK hZ hP [12, 13, 14, 15, 16, 17, 18, 19] rfl 12 2 rfl rfl rfl hl.1 rfl (lv_room (Nat.le_of_ble_eq_true rfl)) d_Plan_castStep_230 ⟨Nat.zero_le _, Nat.zero_le _⟩ ?_
                  refine lv_topi (fun f_114 ef_114 => ?_)
                  refine lv_iadd hx hb d_Plan_castStep_233 ?_
                  refine lv_topi (fun f_115 ef_115 => ?_)
                  refine va_iast hx hb hK hP hD hS 10 0 rfl rfl (by rw [ef_110]; exact in_s hk (by decide)) d_Plan_castStep_234 (fun H locs hP hD hS => ?_)
                  have hP : va_P D cls [(a, .inr (0, [.ref b, .ref (d 0), .ref (d 1), .ref (d 2), .ref (d 3), .ref (d 4), .ref (d 5), .ref (d 6), .ref (d 7), .ref (d 8), .ref (d 9), .ref (d 10)])), (d 0, .inl (cA, 6, .inl (P 0))), (d 1, .inl (cA, 6, .inl (P 1))), (d 2, .inl (cA, 6, .inl (P 2))), (d 3, .inl (cA, 6, .inl (P 3))), (d 4, .inl (cA, 6, .inl (upd (P 4) k.toNatClampNeg f_101))), (d 5, .inl (cA, 6, .inl (upd (P 5) k.toNatClampNeg f_105))), (d 6, .inl (cA, 6, .inl (upd (P 6) k.toNatClampNeg 0))), (d 7, .inl (cA, 6, .inl (upd (P 7) k.toNatClampNeg f_94))), (d 8, .inl (cA, 7, .inl (upd (P 8) f_106.toNatClampNeg f_109))), (d 9, .inl (cA, 7, .inl (upd (P 9) f_110.toNatClampNeg f_115))), (d 10, .inl (cA, 7, .inl (P 10))), (b, .inr (2, [.int (S 0 0), .ref (g 1), .ref (g 2), .ref (g 3), .ref (g 4), .ref (g 5), .ref (g 6), .int (S 0 1), .int (S 0 2), .int (S 0 3), .int (S 0 4), .int (S 0 5), .int (S 0 6), .int (S 0 7), .ref (g 7)])), (g 1, .inl (cA, 6, .inl (S 1))), (g 2, .inl (cA, 6, .inl (S 2))), (g 3, .inl (cA, 6, .inl (S 3))), (g 4, .inl (cA, 6, .inl (S 4))), (g 5, .inl (cA, 6, .inl (S 5))), (g 6, .inl (cA, 6, .inl (S 6))), (g 7, .inl (cA, 36, .inl (S 7)))] H := hP
                  have hD : va_D A [(a, .inr (0, [.ref b, .ref (d 0), .ref (d 1), .ref (d 2), .ref (d 3), .ref (d 4), .ref (d 5), .ref (d 6), .ref (d 7), .ref (d 8), .ref (d 9), .ref (d 10)])), (d 0, .inl (cA, 6, .inl (P 0))), (d 1, .inl (cA, 6, .inl (P 1))), (d 2, .inl (cA, 6, .inl (P 2))), (d 3, .inl (cA, 6, .inl (P 3))), (d 4, .inl (cA, 6, .inl (upd (P 4) k.toNatClampNeg f_101))), (d 5, .inl (cA, 6, .inl (upd (P 5) k.toNatClampNeg f_105))), (d 6, .inl (cA, 6, .inl (upd (P 6) k.toNatClampNeg 0))), (d 7, .inl (cA, 6, .inl (upd (P 7) k.toNatClampNeg f_94))), (d 8, .inl (cA, 7, .inl (upd (P 8) f_106.toNatClampNeg f_109))), (d 9, .inl (cA, 7, .inl (upd (P 9) f_110.toNatClampNeg f_115))), (d 10, .inl (cA, 7, .inl (P 10))), (b, .inr (2, [.int (S 0 0), .ref (g 1), .ref (g 2), .ref (g 3), .ref (g 4), .ref (g 5), .ref (g 6), .int (S 0 1), .int (S 0 2), .int (S 0 3), .int (S 0 4), .int (S 0 5), .int (S 0 6), .int (S 0 7), .ref (g 7)])), (g 1, .inl (cA, 6, .inl (S 1))), (g 2, .inl (cA, 6, .inl (S 2))), (g 3, .inl (cA, 6, .inl (S 3))), (g 4, .inl (cA, 6, .inl (S 4))), (g 5, .inl (cA, 6, .inl (S 5))), (g 6, .inl (cA, 6, .inl (S 6))), (g 7, .inl (cA, 36, .inl (S 7)))] := hD
                  refine lv_aload_n hx hb d_Plan_castStep_235 rfl (lv_at hl 4 rfl) ?_
                  refine va_get (D := D) (ci := 0) (v := .ref (d 10)) (C := R_Plan) (T := T_Plan) (N := 12) hx hb hts i_Plan hown hK hP 0 rfl rfl 11 (by decide) (hts _ mb_131) (fun _ h9 => h9) rfl d_Plan_castStep_236 ?_
                  refine lv_iload_n hx hb d_Plan_castStep_239 rfl (lv_at hl 5 rfl) ?_
                  refine lv_iconst (v := 1) hx hb d_Plan_castStep_240 (by decide) ?_
                  refine lv_iadd hx hb d_Plan_castStep_241 ?_
                  refine lv_topi (fun f_116 ef_116 => ?_)
                  refine lv_aload_n hx hb d_Plan_castStep_242 rfl (lv_at hl 4 rfl) ?_
                  refine va_get (D := D) (ci := 0) (v := .ref (d 10)) (C := R_Plan) (T := T_Plan) (N := 12) hx hb hts i_Plan hown hK hP 0 rfl rfl 11 (by decide) (hts _ mb_131) (fun _ h9 => h9) rfl d_Plan_castStep_243 ?_
                  refine lv_iload_n hx hb d_Plan_castStep_246 rfl (lv_at hl 5 rfl) ?_
                  refine va_iald hx hb hK hP 11 0 rfl rfl (in_le hk (by decide)) d_Plan_castStep_247 ?_
                  refine lv_topi (fun f_117 ef_117 => ?_)
                  refine lv_iload hx hb d_Plan_castStep_248 (lv_at hl 1 rfl) ?_
                  refine lv_if_eq (tgt := 258) hx hb d_Plan_castStep_250 (by decide) (fun c_118 => ?_) (fun c_118 => ?_)
                  · exact absurd c_118 (by decide)
                  · skip
                    refine lv_iload hx hb d_Plan_castStep_253 (lv_at hl 2 rfl) ?_
                    refine lv_goto (tgt := 259) hx hb d_Plan_castStep_255 (by decide) ?_
                    refine lv_iadd hx hb d_Plan_castStep_259 ?_
                    refine lv_topi (fun f_119 ef_119 => ?_)
                    refine va_iast hx hb hK hP hD hS 11 0 rfl rfl (by rw [ef_116]; exact in_s hk (by decide)) d_Plan_castStep_260 (fun H locs hP hD hS => ?_)
                    have hP : va_P D cls [(a, .inr (0, [.ref b, .ref (d 0), .ref (d 1), .ref (d 2), .ref (d 3), .ref (d 4), .ref (d 5), .ref (d 6), .ref (d 7), .ref (d 8), .ref (d 9), .ref (d 10)])), (d 0, .inl (cA, 6, .inl (P 0))), (d 1, .inl (cA, 6, .inl (P 1))), (d 2, .inl (cA, 6, .inl (P 2))), (d 3, .inl (cA, 6, .inl (P 3))), (d 4, .inl (cA, 6, .inl (upd (P 4) k.toNatClampNeg f_101))), (d 5, .inl (cA, 6, .inl (upd (P 5) k.toNatClampNeg f_105))), (d 6, .inl (cA, 6, .inl (upd (P 6) k.toNatClampNeg 0))), (d 7, .inl (cA, 6, .inl (upd (P 7) k.toNatClampNeg f_94))), (d 8, .inl (cA, 7, .inl (upd (P 8) f_106.toNatClampNeg f_109))), (d 9, .inl (cA, 7, .inl (upd (P 9) f_110.toNatClampNeg f_115))), (d 10, .inl (cA, 7, .inl (upd (P 10) f_116.toNatClampNeg f_119))), (b, .inr (2, [.int (S 0 0), .ref (g 1), .ref (g 2), .ref (g 3), .ref (g 4), .ref (g 5), .ref (g 6), .int (S 0 1), .int (S 0 2), .int (S 0 3), .int (S 0 4), .int (S 0 5), .int (S 0 6), .int (S 0 7), .ref (g 7)])), (g 1, .inl (cA, 6, .inl (S 1))), (g 2, .inl (cA, 6, .inl (S 2))), (g 3, .inl (cA, 6, .inl (S 3))), (g 4, .inl (cA, 6, .inl (S 4))), (g 5, .inl (cA, 6, .inl (S 5))), (g 6, .inl (cA, 6, .inl (S 6))), (g 7, .inl (cA, 36, .inl (S 7)))] H := hP
                    have hD : va_D A [(a, .inr (0, [.ref b, .ref (d 0), .ref (d 1), .ref (d 2), .ref (d 3), .ref (d 4), .ref (d 5), .ref (d 6), .ref (d 7), .ref (d 8), .ref (d 9), .ref (d 10)])), (d 0, .inl (cA, 6, .inl (P 0))), (d 1, .inl (cA, 6, .inl (P 1))), (d 2, .inl (cA, 6, .inl (P 2))), (d 3, .inl (cA, 6, .inl (P 3))), (d 4, .inl (cA, 6, .inl (upd (P 4) k.toNatClampNeg f_101))), (d 5, .inl (cA, 6, .inl (upd (P 5) k.toNatClampNeg f_105))), (d 6, .inl (cA, 6, .inl (upd (P 6) k.toNatClampNeg 0))), (d 7, .inl (cA, 6, .inl (upd (P 7) k.toNatClampNeg f_94))), (d 8, .inl (cA, 7, .inl (upd (P 8) f_106.toNatClampNeg f_109))), (d 9, .inl (cA, 7, .inl (upd (P 9) f_110.toNatClampNeg f_115))), (d 10, .inl (cA, 7, .inl (upd (P 10) f_116.toNatClampNeg f_119))), (b, .inr (2, [.int (S 0 0), .ref (g 1), .ref (g 2), .ref (g 3), .ref (g 4), .ref (g 5), .ref (g 6), .int (S 0 1), .int (S 0 2), .int (S 0 3), .int (S 0 4), .int (S 0 5), .int (S 0 6), .int (S 0 7), .ref (g 7)])), (g 1, .inl (cA, 6, .inl (S 1))), (g 2, .inl (cA, 6, .inl (S 2))), (g 3, .inl (cA, 6, .inl (S 3))), (g 4, .inl (cA, 6, .inl (S 4))), (g 5, .inl (cA, 6, .inl (S 5))), (g 6, .inl (cA, 6, .inl (S 6))), (g 7, .inl (cA, 36, .inl (S 7)))] := hD
                    have e9 : r_Plan_castStep S P k q = (tb [P 0, P 1, P 2, P 3, upd (P 4) k.toNatClampNeg f_101, upd (P 5) k.toNatClampNeg f_105, upd (P 6) k.toNatClampNeg 0, upd (P 7) k.toNatClampNeg f_94, upd (P 8) f_106.toNatClampNeg f_109, upd (P 9) f_110.toNatClampNeg f_115, upd (P 10) f_116.toNatClampNeg f_119]) := by
                      subst ef_28 ef_29 ef_30 ef_60 ef_93 ef_94 ef_96 ef_97 ef_98 ef_99 ef_100 ef_101 ef_102 ef_103 ef_104 ef_105 ef_106 ef_107 ef_108 ef_109 ef_110 ef_111 ef_112 ef_113 ef_114 ef_115 ef_116 ef_117 ef_119; unfold r_Plan_castStep; simp only [if_neg c_1, if_neg c_27, if_neg c_31, if_neg c_61, if_neg c_90, if_neg c_91, if_neg c_92, if_neg c_95, if_neg c_118]
                    exact W.vret hx hb hr (fun t ht hW => ⟨⟨(), rfl, trivial, (by rw [e9, ht]; exact hP.sub [0, 1, 2, 3, 4, 5, 6, 7, 8, 9, 10, 11, 12, 13, 14, 15, 16, 17, 18, 19] rfl), (by rw [e9]; exact hD.sub [0, 1, 2, 3, 4, 5, 6, 7, 8, 9, 10, 11, 12, 13, 14, 15, 16, 17, 18, 19] (by decide) rfl)⟩, hS.F ht⟩) hS.2.2 d_Plan_castStep_261
            · exact absurd c_91 (by decide)
