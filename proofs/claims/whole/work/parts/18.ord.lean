/-! the class: forget, namesEachHeat, bound, clash -/
/-- the class' own cell -/
abbrev wOrd (u b o aa : Nat) (y : Nat → Int32) : va_W := [(u, .inr (3, [.ref b, .ref o, .ref aa, .int (y 0), .int (y 1)]))]
theorem hgp_hp {S P : Nat → Nat → Int32} {x : Nat → Int32} {q : Int32} (hN : ∃ n : Nat, n ≤ 6 ∧ S 0 0 = nI n) (hp : ∀ j, vp_in (P 0 j) 6) : ∀ j, vp_in ((r_Srch_hasGoodPlan S P x q).2 0 j) 6 := by
  unfold r_Srch_hasGoodPlan
  exact canEnd_hp hN _ _ _ _ hp
def r_Ord_forget (y : Nat → Int32) : Nat → Int32 := (tv [0, 0])
set_option maxHeartbeats 4000000 in
set_option maxRecDepth 100000 in
theorem k_Ord_forget (l : Launch) (D : va_G) (cA cZ cL : ClassId) (u b o aa : Nat) (y : Nat → Int32)  : MetV l y_Ord_forget (Cond.code y_Ord_forget c_Ord_forget 1 none :: base) ({ frames := 0, cells := 0, slots := 0, locals := 0 } : Room) D cls (tys3 cA cZ cL) ([.ref u]) (wOrd u b o aa y) (wOrd u b o aa (r_Ord_forget y)) := by
  intro sz
  refine Met.ofW (cc := c_Ord_forget) (maxL := 1) (ret := none) (by decide) rfl ?_
  intro p e s m args below meth c s₁ B hml hv
  obtain ⟨rfl, hsz, hP, hK, hZ, hD0⟩ := hv
  have hx := B.exec
  have hb := B.bytes
  have hr := B.returns
  have hts0 := atoms_spec (ws := (Cond.code y_Ord_forget c_Ord_forget 1 none :: base)) B.pre
  have hts : ∀ w ∈ base, w.before _ s = true := fun w h => hts0 w (List.mem_cons_of_mem _ h)
  have hown : s.vm.findClass R_Ord = some m.cls := findClass_of_methodNamed B.named
  have hlocks := B.notSynchronized
  have hP : va_P D cls [(u, .inr (3, [.ref b, .ref o, .ref aa, .int (y 0), .int (y 1)]))] s.heap := hP
  subst hsz
  have hD := hD0.self (sz := s.heap.size)
  generalize hAe : va_A (wOrd u b o aa y) s.heap.size = A at hD ⊢
  have hA : ∀ q : Nat, s.heap.size ≤ q → A q := fun q h => by rw [← hAe]; exact Or.inr h
  have hS : va_S A s.heap s.heap [] := va_S.rf
  have hD : va_D A [(u, .inr (3, [.ref b, .ref o, .ref aa, .int (y 0), .int (y 1)]))] := hD
  have hl := lv_entry ([.ref u]) (n := 1) (Nat.le_of_ble_eq_true rfl)
  rw [lg_entry_eq]
  generalize (lg_sl ([.ref u]) ++ List.replicate (1 - (lg_sl ([.ref u])).length) Slot.unset).toArray = ls at hl ⊢
  have hl : lv_has ls 1 [(0, .ref u)] := hl
  refine lv_aload_n hx hb d_Ord_forget_0 rfl (lv_at hl 0 rfl) ?_
  refine lv_iconst (v := 0) hx hb d_Ord_forget_1 (by decide) ?_
  refine va_put (D := D) (ci := 3) (v := .int 0) (ty := .boolean) (C := R_Ord) (T := T_Ord) (N := 5) hx hb hts i_Ord t_Ord t_Ord_ok n_Ord hown hK hP hD hS 0 rfl rfl 3 (by decide) (hts _ mb_193) (fun _ h9 => h9) rfl (by decide +kernel) rfl rfl (Nat.le_of_ble_eq_true rfl) d_Ord_forget_2 (fun H locs hP hD hS => ?_)
  have hP : va_P D cls [(u, .inr (3, [.ref b, .ref o, .ref aa, .int 0, .int (y 1)]))] H := hP
  have hD : va_D A [(u, .inr (3, [.ref b, .ref o, .ref aa, .int 0, .int (y 1)]))] := hD
  refine lv_aload_n hx hb d_Ord_forget_5 rfl (lv_at hl 0 rfl) ?_
  refine lv_iconst (v := 0) hx hb d_Ord_forget_6 (by decide) ?_
  refine va_put (D := D) (ci := 3) (v := .int 0) (ty := .boolean) (C := R_Ord) (T := T_Ord) (N := 5) hx hb hts i_Ord t_Ord t_Ord_ok n_Ord hown hK hP hD hS 0 rfl rfl 4 (by decide) (hts _ mb_194) (fun _ h9 => h9) rfl (by decide +kernel) rfl rfl (Nat.le_of_ble_eq_true rfl) d_Ord_forget_7 (fun H locs hP hD hS => ?_)
  have hP : va_P D cls [(u, .inr (3, [.ref b, .ref o, .ref aa, .int 0, .int 0]))] H := hP
  have hD : va_D A [(u, .inr (3, [.ref b, .ref o, .ref aa, .int 0, .int 0]))] := hD
  have e9 : r_Ord_forget y = (tv [0, 0]) := by
    rfl
  exact W.vret hx hb hr (fun t ht hW => ⟨⟨(), rfl, trivial, (by rw [e9, ht]; exact hP.sub [0] rfl), (by rw [e9]; exact hD.sub [0] (by decide) rfl)⟩, hS.F ht⟩) hS.2.2 d_Ord_forget_10
def q_Ord_namesEachHeat (S : Nat → Nat → Int32) (v q : Int32) : Nat → Int32 → Int32 → Int32
  | 0, _, _ => 0
  | n + 1, k, j => if q ≤ k then (1) else (let f_2 : Int32 := r_Ord_heatOf v k; let f_3 : Int32 := 1 <<< (f_2 &&& 31); let f_4 : Int32 := j &&& f_3; if f_4 = 0 then (0) else (let f_6 : Int32 := f_3 ^^^ (-1); let f_7 : Int32 := j &&& f_6; let x_8 : Int32 := k + 1; q_Ord_namesEachHeat S v q n x_8 f_7))
set_option maxHeartbeats 4000000 in
set_option maxRecDepth 100000 in
theorem lp_Ord_namesEachHeat {l : Launch} {D : va_G} {cA cZ cL : ClassId} (u b o aa : Nat) (g : Nat → Nat) (y : Nat → Int32) (S : Nat → Nat → Int32) (v q : Int32) (hq : ∃ n : Nat, n ≤ 6 ∧ q = nI n) {p : Program} {e : Env} {s : State} {m : MethodId} {args : Array Value} {below : List Frame} {meth : Method} {c : Code} (hx : p.tables.exec = Jvm.exec) (hb : c.code = c_Ord_namesEachHeat) (hr : meth.sig.returnType = (some .boolean)) (hml : c.maxLocals = 6) (hts : ∀ w ∈ base, w.before args s = true) (hown : s.vm.findClass R_Ord = some m.cls) (hlocks : meth.locks = false) (hK : va_K D cls (tys3 cA cZ cL) s) (hZ : hz s) (hP : va_P D cls [(u, .inr (3, [.ref b, .ref o, .ref aa, .int (y 0), .int (y 1)])), (b, .inr (2, [.int (S 0 0), .ref (g 1), .ref (g 2), .ref (g 3), .ref (g 4), .ref (g 5), .ref (g 6), .int (S 0 1), .int (S 0 2), .int (S 0 3), .int (S 0 4), .int (S 0 5), .int (S 0 6), .int (S 0 7), .ref (g 7)])), (g 1, .inl (cA, 6, .inl (S 1))), (g 2, .inl (cA, 6, .inl (S 2))), (g 3, .inl (cA, 6, .inl (S 3))), (g 4, .inl (cA, 6, .inl (S 4))), (g 5, .inl (cA, 6, .inl (S 5))), (g 6, .inl (cA, 6, .inl (S 6))), (g 7, .inl (cA, 36, .inl (S 7)))] s.heap) :
    ∀ (n : Nat) (k : Int32) (j : Int32), (0 ≤ k.toInt ∧ k.toInt ≤ 6 ∧ 7 < k.toInt + (n : Int)) → ∀ ls : Array Slot, lv_has ls 6 [(4, .int k), (3, .int j), (0, .ref u), (1, .int v), (2, .int q)] → W p l e ({ frames := 1, cells := 0, slots := 0, locals := 21 } : Room) s m args below meth c s.heap [] 0 0 (MQ below (vp_Si (fun r => r = q_Ord_namesEachHeat S v q n k j)) args s 0 0 (fun _ => False)) (F0 m 11 ls []) := by
  intro n
  induction n with
  | zero =>
    intro k j hi
    exact absurd hi (by omega)
  | succ n ih =>
    intro k j hi ls hl
    refine lv_iload hx hb d_Ord_namesEachHeat_11 (lv_at hl 0 rfl) ?_
    refine lv_iload_n hx hb d_Ord_namesEachHeat_13 rfl (lv_at hl 4 rfl) ?_
    refine lv_icmp_ge (tgt := 49) hx hb d_Ord_namesEachHeat_14 (by decide) (fun c_1 => ?_) (fun c_1 => ?_)
    · skip
      refine lv_iconst (v := 1) hx hb d_Ord_namesEachHeat_49 (by decide) ?_
      have e9 : q_Ord_namesEachHeat S v q (n + 1) k j = 1 := by
        rw [q_Ord_namesEachHeat]; simp only [if_pos c_1]
      exact W.zret (v := 1) hx hb hr rfl (fun t ht _ => ⟨_, rfl, e9.symm, ht⟩) (fun _ h => by cases h) d_Ord_namesEachHeat_50
    · skip
      have hh6 : vp_in k 6 := in_lt hq hi.1 c_1
      refine lv_iconst (v := 1) hx hb d_Ord_namesEachHeat_17 (by decide) ?_
      refine lv_iload_n hx hb d_Ord_namesEachHeat_18 rfl (lv_at hl 3 rfl) ?_
      refine lv_iload hx hb d_Ord_namesEachHeat_19 (lv_at hl 0 rfl) ?_
      refine hr_callS (As := [.int v, .int k]) (rest := [.int 1]) ⟨hx, hb, hml, hown, hts⟩ (k_Ord_heatOf l D cA cZ cL v k) (bs_S 2 hts mb_456 (hts _ mb_1) (hts _ mb_499) (hts _ mb_455) (by decide +kernel) ⟨Nat.le_of_ble_eq_true rfl, Nat.le_of_ble_eq_true rfl⟩) hK hZ hP [] rfl rfl hl.1 rfl (lv_room (Nat.le_of_ble_eq_true rfl)) d_Ord_namesEachHeat_21 ⟨Nat.zero_le _, Nat.zero_le _⟩ ?_
      refine lv_topi (fun f_2 ef_2 => ?_)
      refine lv_ishl hx hb d_Ord_namesEachHeat_24 ?_
      refine lv_topi (fun f_3 ef_3 => ?_)
      refine lv_istore (lv' := [(5, .int f_3), (4, .int k), (3, .int j), (0, .ref u), (1, .int v), (2, .int q)]) hx hb d_Ord_namesEachHeat_25 hl (by decide) rfl (fun ls hl => ?_)
      refine lv_iload_n hx hb d_Ord_namesEachHeat_27 rfl (lv_at hl 2 rfl) ?_
      refine lv_iload hx hb d_Ord_namesEachHeat_28 (lv_at hl 0 rfl) ?_
      refine lv_iand hx hb d_Ord_namesEachHeat_30 ?_
      refine lv_topi (fun f_4 ef_4 => ?_)
      refine lv_if_ne (tgt := 36) hx hb d_Ord_namesEachHeat_31 (by decide) (fun c_5 => ?_) (fun c_5 => ?_)
      · skip
        refine lv_iload_n hx hb d_Ord_namesEachHeat_36 rfl (lv_at hl 2 rfl) ?_
        refine lv_iload hx hb d_Ord_namesEachHeat_37 (lv_at hl 0 rfl) ?_
        refine lv_iconst (v := (-1)) hx hb d_Ord_namesEachHeat_39 (by decide) ?_
        refine lv_ixor hx hb d_Ord_namesEachHeat_40 ?_
        refine lv_topi (fun f_6 ef_6 => ?_)
        refine lv_iand hx hb d_Ord_namesEachHeat_41 ?_
        refine lv_topi (fun f_7 ef_7 => ?_)
        refine lv_istore_n (lv' := [(3, .int f_7), (5, .int f_3), (4, .int k), (0, .ref u), (1, .int v), (2, .int q)]) hx hb d_Ord_namesEachHeat_42 rfl hl (by decide) rfl (fun ls hl => ?_)
        obtain ⟨x_8, ex_8⟩ : ∃ y : Int32, y = k + 1 := ⟨_, rfl⟩
        refine lv_iinc (v := x_8) (lv' := [(4, .int x_8), (3, .int f_7), (5, .int f_3), (0, .ref u), (1, .int v), (2, .int q)]) hx hb d_Ord_namesEachHeat_43 hl (k := 2) rfl (by rw [ex_8]; rfl) (by decide) rfl (fun ls hl => ?_)
        refine lv_goto (tgt := 11) hx hb d_Ord_namesEachHeat_46 (by decide) ?_
        have e9 : q_Ord_namesEachHeat S v q (n + 1) k j = q_Ord_namesEachHeat S v q n x_8 f_7 := by
          subst ef_2 ef_3 ef_4 ef_6 ef_7 ex_8; rw [q_Ord_namesEachHeat]; simp only [if_neg c_1, if_neg c_5]
        rw [e9]
        exact ih x_8 f_7 (by rw [ex_8, toInt_s hh6 (by decide)]; have h8 := vp_in_iff.mp hh6; omega) _ (lv_sub hl [0, 1, 3, 4, 5] rfl)
      · skip
        refine lv_iconst (v := 0) hx hb d_Ord_namesEachHeat_34 (by decide) ?_
        have e9 : q_Ord_namesEachHeat S v q (n + 1) k j = 0 := by
          subst ef_2 ef_3 ef_4; rw [q_Ord_namesEachHeat]; simp only [if_neg c_1, if_pos c_5]
        exact W.zret (v := 0) hx hb hr rfl (fun t ht _ => ⟨_, rfl, e9.symm, ht⟩) (fun _ h => by cases h) d_Ord_namesEachHeat_35
def r_Ord_namesEachHeat (S : Nat → Nat → Int32) (v q : Int32) : Int32 := let f_1 : Int32 := r_Shop_allHeats S; q_Ord_namesEachHeat S v q 8 0 f_1
set_option maxHeartbeats 4000000 in
set_option maxRecDepth 100000 in
theorem k_Ord_namesEachHeat (l : Launch) (D : va_G) (cA cZ cL : ClassId) (u b o aa : Nat) (g : Nat → Nat) (y : Nat → Int32) (S : Nat → Nat → Int32) (v q : Int32) (hq : ∃ n : Nat, n ≤ 6 ∧ q = nI n) : MetR l y_Ord_namesEachHeat (Cond.code y_Ord_namesEachHeat c_Ord_namesEachHeat 6 (some .boolean) :: base) ({ frames := 1, cells := 0, slots := 0, locals := 21 } : Room) D cls (tys3 cA cZ cL) ([.ref u, .int v, .int q]) (wOrd u b o aa y ++ wShop cA b g S) (r_Ord_namesEachHeat S v q) := by
  refine Met.ofW (cc := c_Ord_namesEachHeat) (maxL := 6) (ret := (some .boolean)) (by decide) rfl ?_
  intro p e s m args below meth c s₁ B hml hv
  obtain ⟨rfl, hP, hK, hZ⟩ := hv
  have hx := B.exec
  have hb := B.bytes
  have hr := B.returns
  have hts0 := atoms_spec (ws := (Cond.code y_Ord_namesEachHeat c_Ord_namesEachHeat 6 (some .boolean) :: base)) B.pre
  have hts : ∀ w ∈ base, w.before _ s = true := fun w h => hts0 w (List.mem_cons_of_mem _ h)
  have hown : s.vm.findClass R_Ord = some m.cls := findClass_of_methodNamed B.named
  have hlocks := B.notSynchronized
  have hP : va_P D cls [(u, .inr (3, [.ref b, .ref o, .ref aa, .int (y 0), .int (y 1)])), (b, .inr (2, [.int (S 0 0), .ref (g 1), .ref (g 2), .ref (g 3), .ref (g 4), .ref (g 5), .ref (g 6), .int (S 0 1), .int (S 0 2), .int (S 0 3), .int (S 0 4), .int (S 0 5), .int (S 0 6), .int (S 0 7), .ref (g 7)])), (g 1, .inl (cA, 6, .inl (S 1))), (g 2, .inl (cA, 6, .inl (S 2))), (g 3, .inl (cA, 6, .inl (S 3))), (g 4, .inl (cA, 6, .inl (S 4))), (g 5, .inl (cA, 6, .inl (S 5))), (g 6, .inl (cA, 6, .inl (S 6))), (g 7, .inl (cA, 36, .inl (S 7)))] s.heap := hP
  have hl := lv_entry ([.ref u, .int v, .int q]) (n := 6) (Nat.le_of_ble_eq_true rfl)
  rw [lg_entry_eq]
  generalize (lg_sl ([.ref u, .int v, .int q]) ++ List.replicate (6 - (lg_sl ([.ref u, .int v, .int q])).length) Slot.unset).toArray = ls at hl ⊢
  have hl : lv_has ls 6 [(0, .ref u), (1, .int v), (2, .int q)] := hl
  refine lv_aload_n hx hb d_Ord_namesEachHeat_0 rfl (lv_at hl 0 rfl) ?_
  refine va_get (D := D) (ci := 3) (v := .ref b) (C := R_Ord) (T := T_Ord) (N := 5) hx hb hts i_Ord hown hK hP 0 rfl rfl 0 (by decide) (hts _ mb_190) (fun _ h9 => h9) rfl d_Ord_namesEachHeat_1 ?_
  refine hr_callV (C := R_Shop) (T := T_Shop) (N := 15) (As := []) (rest := []) ⟨hx, hb, hml, hown, hts⟩ (k_Shop_allHeats l D cA cZ cL b g S  ) (bv_V 0 hts mb_224 (hts _ mb_2) (hts _ mb_221) (hts _ mb_222) (hts _ mb_223) (by decide +kernel) ⟨Nat.le_of_ble_eq_true rfl, Nat.le_of_ble_eq_true rfl⟩) hK hZ hP [1, 2, 3, 4, 5, 6, 7, 8] rfl 1 2 rfl rfl rfl hl.1 rfl (lv_room (Nat.le_of_ble_eq_true rfl)) d_Ord_namesEachHeat_4 ⟨Nat.zero_le _, Nat.zero_le _⟩ ?_
  refine lv_topi (fun f_1 ef_1 => ?_)
  refine lv_istore_n (lv' := [(3, .int f_1), (0, .ref u), (1, .int v), (2, .int q)]) hx hb d_Ord_namesEachHeat_7 rfl hl (by decide) rfl (fun ls hl => ?_)
  refine lv_iconst (v := 0) hx hb d_Ord_namesEachHeat_8 (by decide) ?_
  refine lv_istore (lv' := [(4, .int 0), (3, .int f_1), (0, .ref u), (1, .int v), (2, .int q)]) hx hb d_Ord_namesEachHeat_9 hl (by decide) rfl (fun ls hl => ?_)
  have e9 : r_Ord_namesEachHeat S v q = q_Ord_namesEachHeat S v q 8 0 f_1 := by
    subst ef_1; rfl
  rw [e9]
  exact (lp_Ord_namesEachHeat u b o aa g y S v q hq hx hb hr hml hts hown hlocks hK hZ hP 8) 0 f_1 (by decide) _ (lv_sub hl [0, 1, 2, 3, 4] rfl)
def q_Ord_bound (S : Nat → Nat → Int32) : Nat → Int32 → Int32 → Int32
  | 0, _, _ => 0
  | n + 1, h, j => if S 0 0 ≤ h then (j) else (let f_2 : Int32 := S 3 h.toNatClampNeg; let f_3 : Int32 := S 4 h.toNatClampNeg; let f_4 : Int32 := f_2 + f_3; let f_5 : Int32 := r_Shop_lateMinutes S h f_4; let f_6 : Int32 := f_5 * (S 0 7); let f_7 : Int32 := j + f_6; let x_8 : Int32 := h + 1; q_Ord_bound S n x_8 f_7)
set_option maxHeartbeats 4000000 in
set_option maxRecDepth 100000 in
theorem lp_Ord_bound {l : Launch} {D : va_G} {cA cZ cL : ClassId} (u b o aa : Nat) (g : Nat → Nat) (y : Nat → Int32) (S : Nat → Nat → Int32) (hN : ∃ n : Nat, n ≤ 6 ∧ S 0 0 = nI n) {p : Program} {e : Env} {s : State} {m : MethodId} {args : Array Value} {below : List Frame} {meth : Method} {c : Code} (hx : p.tables.exec = Jvm.exec) (hb : c.code = c_Ord_bound) (hr : meth.sig.returnType = (some .int)) (hml : c.maxLocals = 3) (hts : ∀ w ∈ base, w.before args s = true) (hown : s.vm.findClass R_Ord = some m.cls) (hlocks : meth.locks = false) (hK : va_K D cls (tys3 cA cZ cL) s) (hZ : hz s) (hP : va_P D cls [(u, .inr (3, [.ref b, .ref o, .ref aa, .int (y 0), .int (y 1)])), (b, .inr (2, [.int (S 0 0), .ref (g 1), .ref (g 2), .ref (g 3), .ref (g 4), .ref (g 5), .ref (g 6), .int (S 0 1), .int (S 0 2), .int (S 0 3), .int (S 0 4), .int (S 0 5), .int (S 0 6), .int (S 0 7), .ref (g 7)])), (g 1, .inl (cA, 6, .inl (S 1))), (g 2, .inl (cA, 6, .inl (S 2))), (g 3, .inl (cA, 6, .inl (S 3))), (g 4, .inl (cA, 6, .inl (S 4))), (g 5, .inl (cA, 6, .inl (S 5))), (g 6, .inl (cA, 6, .inl (S 6))), (g 7, .inl (cA, 36, .inl (S 7)))] s.heap) :
    ∀ (n : Nat) (h : Int32) (j : Int32), (0 ≤ h.toInt ∧ h.toInt ≤ 6 ∧ 7 < h.toInt + (n : Int)) → ∀ ls : Array Slot, lv_has ls 3 [(2, .int h), (1, .int j), (0, .ref u)] → W p l e ({ frames := 2, cells := 0, slots := 0, locals := 43 } : Room) s m args below meth c s.heap [] 0 0 (MQ below (vp_Si (fun r => r = q_Ord_bound S n h j)) args s 0 0 (fun _ => False)) (F0 m 4 ls []) := by
  intro n
  induction n with
  | zero =>
    intro h j hi
    exact absurd hi (by omega)
  | succ n ih =>
    intro h j hi ls hl
    refine lv_iload_n hx hb d_Ord_bound_4 rfl (lv_at hl 0 rfl) ?_
    refine lv_aload_n hx hb d_Ord_bound_5 rfl (lv_at hl 2 rfl) ?_
    refine va_get (D := D) (ci := 3) (v := .ref b) (C := R_Ord) (T := T_Ord) (N := 5) hx hb hts i_Ord hown hK hP 0 rfl rfl 0 (by decide) (hts _ mb_190) (fun _ h9 => h9) rfl d_Ord_bound_6 ?_
    refine va_get (D := D) (ci := 2) (v := .int (S 0 0)) (C := R_Shop) (T := T_Shop) (N := 15) hx hb hts i_Shop hown hK hP 1 rfl rfl 0 (by decide) (hts _ mb_29) (fun _ h9 => h9) rfl d_Ord_bound_9 ?_
    refine lv_icmp_ge (tgt := 59) hx hb d_Ord_bound_12 (by decide) (fun c_1 => ?_) (fun c_1 => ?_)
    · skip
      refine lv_iload_n hx hb d_Ord_bound_59 rfl (lv_at hl 1 rfl) ?_
      have e9 : q_Ord_bound S (n + 1) h j = j := by
        rw [q_Ord_bound]; simp only [if_pos c_1]
      exact W.iret (v := j) hx hb hr (fun t ht _ => ⟨_, rfl, e9.symm, ht⟩) (fun _ h => by cases h) d_Ord_bound_60
    · skip
      have hh6 : vp_in h 6 := in_lt hN hi.1 c_1
      refine lv_iload_n hx hb d_Ord_bound_15 rfl (lv_at hl 1 rfl) ?_
      refine lv_aload_n hx hb d_Ord_bound_16 rfl (lv_at hl 2 rfl) ?_
      refine va_get (D := D) (ci := 3) (v := .ref b) (C := R_Ord) (T := T_Ord) (N := 5) hx hb hts i_Ord hown hK hP 0 rfl rfl 0 (by decide) (hts _ mb_190) (fun _ h9 => h9) rfl d_Ord_bound_17 ?_
      refine lv_iload_n hx hb d_Ord_bound_20 rfl (lv_at hl 0 rfl) ?_
      refine lv_aload_n hx hb d_Ord_bound_21 rfl (lv_at hl 2 rfl) ?_
      refine va_get (D := D) (ci := 3) (v := .ref b) (C := R_Ord) (T := T_Ord) (N := 5) hx hb hts i_Ord hown hK hP 0 rfl rfl 0 (by decide) (hts _ mb_190) (fun _ h9 => h9) rfl d_Ord_bound_22 ?_
      refine va_get (D := D) (ci := 2) (v := .ref (g 3)) (C := R_Shop) (T := T_Shop) (N := 15) hx hb hts i_Shop hown hK hP 1 rfl rfl 3 (by decide) (hts _ mb_37) (fun _ h9 => h9) rfl d_Ord_bound_25 ?_
      refine lv_iload_n hx hb d_Ord_bound_28 rfl (lv_at hl 0 rfl) ?_
      refine va_iald hx hb hK hP 4 0 rfl rfl hh6 d_Ord_bound_29 ?_
      refine lv_topi (fun f_2 ef_2 => ?_)
      refine lv_aload_n hx hb d_Ord_bound_30 rfl (lv_at hl 2 rfl) ?_
      refine va_get (D := D) (ci := 3) (v := .ref b) (C := R_Ord) (T := T_Ord) (N := 5) hx hb hts i_Ord hown hK hP 0 rfl rfl 0 (by decide) (hts _ mb_190) (fun _ h9 => h9) rfl d_Ord_bound_31 ?_
      refine va_get (D := D) (ci := 2) (v := .ref (g 4)) (C := R_Shop) (T := T_Shop) (N := 15) hx hb hts i_Shop hown hK hP 1 rfl rfl 4 (by decide) (hts _ mb_40) (fun _ h9 => h9) rfl d_Ord_bound_34 ?_
      refine lv_iload_n hx hb d_Ord_bound_37 rfl (lv_at hl 0 rfl) ?_
      refine va_iald hx hb hK hP 5 0 rfl rfl hh6 d_Ord_bound_38 ?_
      refine lv_topi (fun f_3 ef_3 => ?_)
      refine lv_iadd hx hb d_Ord_bound_39 ?_
      refine lv_topi (fun f_4 ef_4 => ?_)
      refine hr_callV (C := R_Shop) (T := T_Shop) (N := 15) (As := [.int h, .int f_4]) (rest := [.int j]) ⟨hx, hb, hml, hown, hts⟩ (k_Shop_lateMinutes l D cA cZ cL b g S h f_4 hh6) (bv_V 2 hts mb_213 (hts _ mb_2) (hts _ mb_210) (hts _ mb_211) (hts _ mb_212) (by decide +kernel) ⟨Nat.le_of_ble_eq_true rfl, Nat.le_of_ble_eq_true rfl⟩) hK hZ hP [1, 2, 3, 4, 5, 6, 7, 8] rfl 1 2 rfl rfl rfl hl.1 rfl (lv_room (Nat.le_of_ble_eq_true rfl)) d_Ord_bound_40 ⟨Nat.zero_le _, Nat.zero_le _⟩ ?_
      refine lv_topi (fun f_5 ef_5 => ?_)
      refine lv_aload_n hx hb d_Ord_bound_43 rfl (lv_at hl 2 rfl) ?_
      refine va_get (D := D) (ci := 3) (v := .ref b) (C := R_Ord) (T := T_Ord) (N := 5) hx hb hts i_Ord hown hK hP 0 rfl rfl 0 (by decide) (hts _ mb_190) (fun _ h9 => h9) rfl d_Ord_bound_44 ?_
      refine va_get (D := D) (ci := 2) (v := .int (S 0 7)) (C := R_Shop) (T := T_Shop) (N := 15) hx hb hts i_Shop hown hK hP 1 rfl rfl 13 (by decide) (hts _ mb_64) (fun _ h9 => h9) rfl d_Ord_bound_47 ?_
      refine lv_imul hx hb d_Ord_bound_50 ?_
      refine lv_topi (fun f_6 ef_6 => ?_)
      refine lv_iadd hx hb d_Ord_bound_51 ?_
      refine lv_topi (fun f_7 ef_7 => ?_)
      refine lv_istore_n (lv' := [(1, .int f_7), (2, .int h), (0, .ref u)]) hx hb d_Ord_bound_52 rfl hl (by decide) rfl (fun ls hl => ?_)
      obtain ⟨x_8, ex_8⟩ : ∃ y : Int32, y = h + 1 := ⟨_, rfl⟩
      refine lv_iinc (v := x_8) (lv' := [(2, .int x_8), (1, .int f_7), (0, .ref u)]) hx hb d_Ord_bound_53 hl (k := 1) rfl (by rw [ex_8]; rfl) (by decide) rfl (fun ls hl => ?_)
      refine lv_goto (tgt := 4) hx hb d_Ord_bound_56 (by decide) ?_
      have e9 : q_Ord_bound S (n + 1) h j = q_Ord_bound S n x_8 f_7 := by
        subst ef_2 ef_3 ef_4 ef_5 ef_6 ef_7 ex_8; rw [q_Ord_bound]; simp only [if_neg c_1]
      rw [e9]
      exact ih x_8 f_7 (by rw [ex_8, toInt_s hh6 (by decide)]; have h8 := vp_in_iff.mp hh6; omega) _ (lv_sub hl [0, 1, 2] rfl)
def r_Ord_bound (S : Nat → Nat → Int32) : Int32 := q_Ord_bound S 8 0 0
set_option maxHeartbeats 4000000 in
set_option maxRecDepth 100000 in
theorem k_Ord_bound (l : Launch) (D : va_G) (cA cZ cL : ClassId) (u b o aa : Nat) (g : Nat → Nat) (y : Nat → Int32) (S : Nat → Nat → Int32) (hN : ∃ n : Nat, n ≤ 6 ∧ S 0 0 = nI n) : MetR l y_Ord_bound (Cond.code y_Ord_bound c_Ord_bound 3 (some .int) :: base) ({ frames := 2, cells := 0, slots := 0, locals := 43 } : Room) D cls (tys3 cA cZ cL) ([.ref u]) (wOrd u b o aa y ++ wShop cA b g S) (r_Ord_bound S) := by
  refine Met.ofW (cc := c_Ord_bound) (maxL := 3) (ret := (some .int)) (by decide) rfl ?_
  intro p e s m args below meth c s₁ B hml hv
  obtain ⟨rfl, hP, hK, hZ⟩ := hv
  have hx := B.exec
  have hb := B.bytes
  have hr := B.returns
  have hts0 := atoms_spec (ws := (Cond.code y_Ord_bound c_Ord_bound 3 (some .int) :: base)) B.pre
  have hts : ∀ w ∈ base, w.before _ s = true := fun w h => hts0 w (List.mem_cons_of_mem _ h)
  have hown : s.vm.findClass R_Ord = some m.cls := findClass_of_methodNamed B.named
  have hlocks := B.notSynchronized
  have hP : va_P D cls [(u, .inr (3, [.ref b, .ref o, .ref aa, .int (y 0), .int (y 1)])), (b, .inr (2, [.int (S 0 0), .ref (g 1), .ref (g 2), .ref (g 3), .ref (g 4), .ref (g 5), .ref (g 6), .int (S 0 1), .int (S 0 2), .int (S 0 3), .int (S 0 4), .int (S 0 5), .int (S 0 6), .int (S 0 7), .ref (g 7)])), (g 1, .inl (cA, 6, .inl (S 1))), (g 2, .inl (cA, 6, .inl (S 2))), (g 3, .inl (cA, 6, .inl (S 3))), (g 4, .inl (cA, 6, .inl (S 4))), (g 5, .inl (cA, 6, .inl (S 5))), (g 6, .inl (cA, 6, .inl (S 6))), (g 7, .inl (cA, 36, .inl (S 7)))] s.heap := hP
  have hl := lv_entry ([.ref u]) (n := 3) (Nat.le_of_ble_eq_true rfl)
  rw [lg_entry_eq]
  generalize (lg_sl ([.ref u]) ++ List.replicate (3 - (lg_sl ([.ref u])).length) Slot.unset).toArray = ls at hl ⊢
  have hl : lv_has ls 3 [(0, .ref u)] := hl
  refine lv_iconst (v := 0) hx hb d_Ord_bound_0 (by decide) ?_
  refine lv_istore_n (lv' := [(1, .int 0), (0, .ref u)]) hx hb d_Ord_bound_1 rfl hl (by decide) rfl (fun ls hl => ?_)
  refine lv_iconst (v := 0) hx hb d_Ord_bound_2 (by decide) ?_
  refine lv_istore_n (lv' := [(2, .int 0), (1, .int 0), (0, .ref u)]) hx hb d_Ord_bound_3 rfl hl (by decide) rfl (fun ls hl => ?_)
  have e9 : r_Ord_bound S = q_Ord_bound S 8 0 0 := by
    rfl
  rw [e9]
  exact (lp_Ord_bound u b o aa g y S hN hx hb hr hml hts hown hlocks hK hZ hP 8) 0 0 (by decide) _ (lv_sub hl [0, 1, 2] rfl)
def q_Ord_clash (S : Nat → Nat → Int32) (x : Nat → Int32) : Nat → Int32 → Int32 → (Nat → Nat → Int32) → Int32 × (Nat → Nat → Int32)
  | 0, _, _, _ => (0, fun _ _ => 0)
  | n + 1, h, j, P => if S 0 0 ≤ h then ((j, P)) else (let f_2 : Int32 := 1 <<< (h &&& 31); let f_3 : Int32 := f_2 ^^^ (-1); let f_4 : Int32 := j &&& f_3; let f_5 : Int32 := (r_Srch_hasGoodPlan S P x f_4).1; if f_5 = 0 then (let x_8 : Int32 := h + 1; q_Ord_clash S x n x_8 f_4 ((r_Srch_hasGoodPlan S P x f_4).2)) else (let x_7 : Int32 := h + 1; q_Ord_clash S x n x_7 j ((r_Srch_hasGoodPlan S P x f_4).2)))
set_option maxHeartbeats 4000000 in
set_option maxRecDepth 100000 in
theorem lp_Ord_clash {l : Launch} {D : va_G} {cA cZ cL : ClassId} (u b o aa a : Nat) (d g : Nat → Nat) (y x : Nat → Int32) (S : Nat → Nat → Int32) (hG : ∀ j, vp_in (S 1 j) 6) (hN : ∃ n : Nat, n ≤ 6 ∧ S 0 0 = nI n) {p : Program} {e : Env} {s : State} {m : MethodId} {args : Array Value} {below : List Frame} {meth : Method} {c : Code} {A : Nat → Prop} (hx : p.tables.exec = Jvm.exec) (hb : c.code = c_Ord_clash) (hr : meth.sig.returnType = (some .int)) (hml : c.maxLocals = 4) (hts : ∀ w ∈ base, w.before args s = true) (hown : s.vm.findClass R_Ord = some m.cls) (hlocks : meth.locks = false) (hK : va_K D cls (tys3 cA cZ cL) s) (hZ : hz s) (hA : ∀ q : Nat, s.heap.size ≤ q → A q) :
    ∀ (n : Nat) (h : Int32) (j : Int32) (P : (Nat → Nat → Int32)), ((0 ≤ h.toInt ∧ h.toInt ≤ 6 ∧ 7 < h.toInt + (n : Int)) ∧ (∀ j, vp_in (P 0 j) 6)) → ∀ (H : Heap) (locs : List Loc), va_P D cls [(u, .inr (3, [.ref b, .ref o, .ref aa, .int (y 0), .int (y 1)])), (o, .inr (1, [.ref b, .ref a, .int (x 0), .int (x 1), .int (x 2), .int (x 3), .int (x 4), .int (x 5)])), (a, .inr (0, [.ref b, .ref (d 0), .ref (d 1), .ref (d 2), .ref (d 3), .ref (d 4), .ref (d 5), .ref (d 6), .ref (d 7), .ref (d 8), .ref (d 9), .ref (d 10)])), (d 0, .inl (cA, 6, .inl (P 0))), (d 1, .inl (cA, 6, .inl (P 1))), (d 2, .inl (cA, 6, .inl (P 2))), (d 3, .inl (cA, 6, .inl (P 3))), (d 4, .inl (cA, 6, .inl (P 4))), (d 5, .inl (cA, 6, .inl (P 5))), (d 6, .inl (cA, 6, .inl (P 6))), (d 7, .inl (cA, 6, .inl (P 7))), (d 8, .inl (cA, 7, .inl (P 8))), (d 9, .inl (cA, 7, .inl (P 9))), (d 10, .inl (cA, 7, .inl (P 10))), (b, .inr (2, [.int (S 0 0), .ref (g 1), .ref (g 2), .ref (g 3), .ref (g 4), .ref (g 5), .ref (g 6), .int (S 0 1), .int (S 0 2), .int (S 0 3), .int (S 0 4), .int (S 0 5), .int (S 0 6), .int (S 0 7), .ref (g 7)])), (g 1, .inl (cA, 6, .inl (S 1))), (g 2, .inl (cA, 6, .inl (S 2))), (g 3, .inl (cA, 6, .inl (S 3))), (g 4, .inl (cA, 6, .inl (S 4))), (g 5, .inl (cA, 6, .inl (S 5))), (g 6, .inl (cA, 6, .inl (S 6))), (g 7, .inl (cA, 36, .inl (S 7)))] H → va_D A [(u, .inr (3, [.ref b, .ref o, .ref aa, .int (y 0), .int (y 1)])), (o, .inr (1, [.ref b, .ref a, .int (x 0), .int (x 1), .int (x 2), .int (x 3), .int (x 4), .int (x 5)])), (a, .inr (0, [.ref b, .ref (d 0), .ref (d 1), .ref (d 2), .ref (d 3), .ref (d 4), .ref (d 5), .ref (d 6), .ref (d 7), .ref (d 8), .ref (d 9), .ref (d 10)])), (d 0, .inl (cA, 6, .inl (P 0))), (d 1, .inl (cA, 6, .inl (P 1))), (d 2, .inl (cA, 6, .inl (P 2))), (d 3, .inl (cA, 6, .inl (P 3))), (d 4, .inl (cA, 6, .inl (P 4))), (d 5, .inl (cA, 6, .inl (P 5))), (d 6, .inl (cA, 6, .inl (P 6))), (d 7, .inl (cA, 6, .inl (P 7))), (d 8, .inl (cA, 7, .inl (P 8))), (d 9, .inl (cA, 7, .inl (P 9))), (d 10, .inl (cA, 7, .inl (P 10))), (b, .inr (2, [.int (S 0 0), .ref (g 1), .ref (g 2), .ref (g 3), .ref (g 4), .ref (g 5), .ref (g 6), .int (S 0 1), .int (S 0 2), .int (S 0 3), .int (S 0 4), .int (S 0 5), .int (S 0 6), .int (S 0 7), .ref (g 7)])), (g 1, .inl (cA, 6, .inl (S 1))), (g 2, .inl (cA, 6, .inl (S 2))), (g 3, .inl (cA, 6, .inl (S 3))), (g 4, .inl (cA, 6, .inl (S 4))), (g 5, .inl (cA, 6, .inl (S 5))), (g 6, .inl (cA, 6, .inl (S 6))), (g 7, .inl (cA, 36, .inl (S 7)))] → va_S A s.heap H locs → ∀ ls : Array Slot, lv_has ls 4 [(2, .int h), (0, .ref u), (1, .int j)] → W p l e ({ frames := 13, cells := 0, slots := 0, locals := 306 } : Room) s m args below meth c H locs 0 0 (MQ below (va_Qi (fun r (_ : Unit) => r = (q_Ord_clash S x n h j P).1) (fun _ => hw_At D cls (tys3 cA cZ cL) A (wOrd u b o aa y ++ wSrch o b a x ++ wPlan cA a d b ((q_Ord_clash S x n h j P).2) ++ wShop cA b g S)) A) args s 0 0 A) (F0 m 23 ls []) := by
  intro n
  induction n with
  | zero =>
    intro h j P hi
    exact absurd hi (by rintro ⟨h, -⟩; omega)
  | succ n ih =>
    intro h j P hi H locs hP hD hS ls hl
    have hp := hi.2
    refine lv_iload_n hx hb d_Ord_clash_23 rfl (lv_at hl 0 rfl) ?_
    refine lv_aload_n hx hb d_Ord_clash_24 rfl (lv_at hl 1 rfl) ?_
    refine va_get (D := D) (ci := 3) (v := .ref b) (C := R_Ord) (T := T_Ord) (N := 5) hx hb hts i_Ord hown hK hP 0 rfl rfl 0 (by decide) (hts _ mb_190) (fun _ h9 => h9) rfl d_Ord_clash_25 ?_
    refine va_get (D := D) (ci := 2) (v := .int (S 0 0)) (C := R_Shop) (T := T_Shop) (N := 15) hx hb hts i_Shop hown hK hP 14 rfl rfl 0 (by decide) (hts _ mb_29) (fun _ h9 => h9) rfl d_Ord_clash_28 ?_
    refine lv_icmp_ge (tgt := 61) hx hb d_Ord_clash_31 (by decide) (fun c_1 => ?_) (fun c_1 => ?_)
    · skip
      refine lv_iload_n hx hb d_Ord_clash_61 rfl (lv_at hl 2 rfl) ?_
      have e9 : q_Ord_clash S x (n + 1) h j P = (j, P) := by
        rw [q_Ord_clash]; simp only [if_pos c_1]
      exact W.iret (v := j) hx hb hr (fun t ht hW => ⟨⟨_, (), rfl, (by rw [e9]), (by rw [e9, ht]; exact hP.sub [0, 1, 2, 3, 4, 5, 6, 7, 8, 9, 10, 11, 12, 13, 14, 15, 16, 17, 18, 19, 20, 21] rfl), (by rw [e9]; exact hD.sub [0, 1, 2, 3, 4, 5, 6, 7, 8, 9, 10, 11, 12, 13, 14, 15, 16, 17, 18, 19, 20, 21] (by decide) rfl)⟩, hS.F ht⟩) hS.2.2 d_Ord_clash_62
    · skip
      have hh6 : vp_in h 6 := in_lt hN hi.1.1 c_1
      refine lv_iload_n hx hb d_Ord_clash_34 rfl (lv_at hl 2 rfl) ?_
      refine lv_iconst (v := 1) hx hb d_Ord_clash_35 (by decide) ?_
      refine lv_iload_n hx hb d_Ord_clash_36 rfl (lv_at hl 0 rfl) ?_
      refine lv_ishl hx hb d_Ord_clash_37 ?_
      refine lv_topi (fun f_2 ef_2 => ?_)
      refine lv_iconst (v := (-1)) hx hb d_Ord_clash_38 (by decide) ?_
      refine lv_ixor hx hb d_Ord_clash_39 ?_
      refine lv_topi (fun f_3 ef_3 => ?_)
      refine lv_iand hx hb d_Ord_clash_40 ?_
      refine lv_topi (fun f_4 ef_4 => ?_)
      refine lv_istore_n (lv' := [(3, .int f_4), (2, .int h), (0, .ref u), (1, .int j)]) hx hb d_Ord_clash_41 rfl hl (by decide) rfl (fun ls hl => ?_)
      refine lv_aload_n hx hb d_Ord_clash_42 rfl (lv_at hl 2 rfl) ?_
      refine va_get (D := D) (ci := 3) (v := .ref o) (C := R_Ord) (T := T_Ord) (N := 5) hx hb hts i_Ord hown hK hP 0 rfl rfl 1 (by decide) (hts _ mb_191) (fun _ h9 => h9) rfl d_Ord_clash_43 ?_
      refine lv_iload_n hx hb d_Ord_clash_46 rfl (lv_at hl 0 rfl) ?_
      refine hw_callVi (C := R_Srch) (T := T_Srch) (N := 8) (wr := [(u, .inr (3, [.ref b, .ref o, .ref aa, .int (y 0), .int (y 1)]))]) (As := [.int f_4]) (rest := []) ⟨hx, hb, hml, hown, hts⟩ (k_Srch_hasGoodPlan l D cA cZ cL o a d b g S P x f_4 hG hN hp) (bv_V 1 hts mb_228 (hts _ mb_3) (hts _ mb_225) (hts _ mb_226) (hts _ mb_227) (by decide +kernel) ⟨Nat.le_of_ble_eq_true rfl, Nat.le_of_ble_eq_true rfl⟩) hK hZ hP hD hS hA [1, 2, 3, 4, 5, 6, 7, 8, 9, 10, 11, 12, 13, 14, 15, 16, 17, 18, 19, 20, 21] [0] rfl rfl (by decide) (by decide) (by decide) 1 1 rfl rfl rfl hl.1 rfl (lv_room (Nat.le_of_ble_eq_true rfl)) d_Ord_clash_47 ⟨Nat.zero_le _, Nat.zero_le _⟩ (fun H locs hP hD hS => ?_)
      have hP : va_P D cls [(u, .inr (3, [.ref b, .ref o, .ref aa, .int (y 0), .int (y 1)])), (o, .inr (1, [.ref b, .ref a, .int (x 0), .int (x 1), .int (x 2), .int (x 3), .int (x 4), .int (x 5)])), (a, .inr (0, [.ref b, .ref (d 0), .ref (d 1), .ref (d 2), .ref (d 3), .ref (d 4), .ref (d 5), .ref (d 6), .ref (d 7), .ref (d 8), .ref (d 9), .ref (d 10)])), (d 0, .inl (cA, 6, .inl ((r_Srch_hasGoodPlan S P x f_4).2 0))), (d 1, .inl (cA, 6, .inl ((r_Srch_hasGoodPlan S P x f_4).2 1))), (d 2, .inl (cA, 6, .inl ((r_Srch_hasGoodPlan S P x f_4).2 2))), (d 3, .inl (cA, 6, .inl ((r_Srch_hasGoodPlan S P x f_4).2 3))), (d 4, .inl (cA, 6, .inl ((r_Srch_hasGoodPlan S P x f_4).2 4))), (d 5, .inl (cA, 6, .inl ((r_Srch_hasGoodPlan S P x f_4).2 5))), (d 6, .inl (cA, 6, .inl ((r_Srch_hasGoodPlan S P x f_4).2 6))), (d 7, .inl (cA, 6, .inl ((r_Srch_hasGoodPlan S P x f_4).2 7))), (d 8, .inl (cA, 7, .inl ((r_Srch_hasGoodPlan S P x f_4).2 8))), (d 9, .inl (cA, 7, .inl ((r_Srch_hasGoodPlan S P x f_4).2 9))), (d 10, .inl (cA, 7, .inl ((r_Srch_hasGoodPlan S P x f_4).2 10))), (b, .inr (2, [.int (S 0 0), .ref (g 1), .ref (g 2), .ref (g 3), .ref (g 4), .ref (g 5), .ref (g 6), .int (S 0 1), .int (S 0 2), .int (S 0 3), .int (S 0 4), .int (S 0 5), .int (S 0 6), .int (S 0 7), .ref (g 7)])), (g 1, .inl (cA, 6, .inl (S 1))), (g 2, .inl (cA, 6, .inl (S 2))), (g 3, .inl (cA, 6, .inl (S 3))), (g 4, .inl (cA, 6, .inl (S 4))), (g 5, .inl (cA, 6, .inl (S 5))), (g 6, .inl (cA, 6, .inl (S 6))), (g 7, .inl (cA, 36, .inl (S 7)))] H := hP
      have hD : va_D A [(u, .inr (3, [.ref b, .ref o, .ref aa, .int (y 0), .int (y 1)])), (o, .inr (1, [.ref b, .ref a, .int (x 0), .int (x 1), .int (x 2), .int (x 3), .int (x 4), .int (x 5)])), (a, .inr (0, [.ref b, .ref (d 0), .ref (d 1), .ref (d 2), .ref (d 3), .ref (d 4), .ref (d 5), .ref (d 6), .ref (d 7), .ref (d 8), .ref (d 9), .ref (d 10)])), (d 0, .inl (cA, 6, .inl ((r_Srch_hasGoodPlan S P x f_4).2 0))), (d 1, .inl (cA, 6, .inl ((r_Srch_hasGoodPlan S P x f_4).2 1))), (d 2, .inl (cA, 6, .inl ((r_Srch_hasGoodPlan S P x f_4).2 2))), (d 3, .inl (cA, 6, .inl ((r_Srch_hasGoodPlan S P x f_4).2 3))), (d 4, .inl (cA, 6, .inl ((r_Srch_hasGoodPlan S P x f_4).2 4))), (d 5, .inl (cA, 6, .inl ((r_Srch_hasGoodPlan S P x f_4).2 5))), (d 6, .inl (cA, 6, .inl ((r_Srch_hasGoodPlan S P x f_4).2 6))), (d 7, .inl (cA, 6, .inl ((r_Srch_hasGoodPlan S P x f_4).2 7))), (d 8, .inl (cA, 7, .inl ((r_Srch_hasGoodPlan S P x f_4).2 8))), (d 9, .inl (cA, 7, .inl ((r_Srch_hasGoodPlan S P x f_4).2 9))), (d 10, .inl (cA, 7, .inl ((r_Srch_hasGoodPlan S P x f_4).2 10))), (b, .inr (2, [.int (S 0 0), .ref (g 1), .ref (g 2), .ref (g 3), .ref (g 4), .ref (g 5), .ref (g 6), .int (S 0 1), .int (S 0 2), .int (S 0 3), .int (S 0 4), .int (S 0 5), .int (S 0 6), .int (S 0 7), .ref (g 7)])), (g 1, .inl (cA, 6, .inl (S 1))), (g 2, .inl (cA, 6, .inl (S 2))), (g 3, .inl (cA, 6, .inl (S 3))), (g 4, .inl (cA, 6, .inl (S 4))), (g 5, .inl (cA, 6, .inl (S 5))), (g 6, .inl (cA, 6, .inl (S 6))), (g 7, .inl (cA, 36, .inl (S 7)))] := hD
      refine lv_topi (fun f_5 ef_5 => ?_)
      refine lv_if_ne (tgt := 55) hx hb d_Ord_clash_50 (by decide) (fun c_6 => ?_) (fun c_6 => ?_)
      · skip
        obtain ⟨x_7, ex_7⟩ : ∃ y : Int32, y = h + 1 := ⟨_, rfl⟩
        refine lv_iinc (v := x_7) (lv' := [(2, .int x_7), (3, .int f_4), (0, .ref u), (1, .int j)]) hx hb d_Ord_clash_55 hl (k := 1) rfl (by rw [ex_7]; rfl) (by decide) rfl (fun ls hl => ?_)
        refine lv_goto (tgt := 23) hx hb d_Ord_clash_58 (by decide) ?_
        have e9 : q_Ord_clash S x (n + 1) h j P = q_Ord_clash S x n x_7 j ((r_Srch_hasGoodPlan S P x f_4).2) := by
          subst ef_2 ef_3 ef_4 ef_5 ex_7; rw [q_Ord_clash]; simp only [if_neg c_1, if_neg c_6]
        rw [e9]
        exact ih x_7 j ((r_Srch_hasGoodPlan S P x f_4).2) ⟨by rw [ex_7, toInt_s hh6 (by decide)]; have h8 := vp_in_iff.mp hh6; omega, (hgp_hp hN hp)⟩ _ _ (hP.sub [0, 1, 2, 3, 4, 5, 6, 7, 8, 9, 10, 11, 12, 13, 14, 15, 16, 17, 18, 19, 20, 21] rfl) (hD.sub [0, 1, 2, 3, 4, 5, 6, 7, 8, 9, 10, 11, 12, 13, 14, 15, 16, 17, 18, 19, 20, 21] (by decide) rfl) hS _ (lv_sub hl [0, 2, 3] rfl)
      · skip
        refine lv_iload_n hx hb d_Ord_clash_53 rfl (lv_at hl 0 rfl) ?_
        refine lv_istore_n (lv' := [(1, .int f_4), (3, .int f_4), (2, .int h), (0, .ref u)]) hx hb d_Ord_clash_54 rfl hl (by decide) rfl (fun ls hl => ?_)
        obtain ⟨x_8, ex_8⟩ : ∃ y : Int32, y = h + 1 := ⟨_, rfl⟩
        refine lv_iinc (v := x_8) (lv' := [(2, .int x_8), (1, .int f_4), (3, .int f_4), (0, .ref u)]) hx hb d_Ord_clash_55 hl (k := 2) rfl (by rw [ex_8]; rfl) (by decide) rfl (fun ls hl => ?_)
        refine lv_goto (tgt := 23) hx hb d_Ord_clash_58 (by decide) ?_
        have e9 : q_Ord_clash S x (n + 1) h j P = q_Ord_clash S x n x_8 f_4 ((r_Srch_hasGoodPlan S P x f_4).2) := by
          subst ef_2 ef_3 ef_4 ef_5 ex_8; rw [q_Ord_clash]; simp only [if_neg c_1, if_pos c_6]
        rw [e9]
        exact ih x_8 f_4 ((r_Srch_hasGoodPlan S P x f_4).2) ⟨by rw [ex_8, toInt_s hh6 (by decide)]; have h8 := vp_in_iff.mp hh6; omega, (hgp_hp hN hp)⟩ _ _ (hP.sub [0, 1, 2, 3, 4, 5, 6, 7, 8, 9, 10, 11, 12, 13, 14, 15, 16, 17, 18, 19, 20, 21] rfl) (hD.sub [0, 1, 2, 3, 4, 5, 6, 7, 8, 9, 10, 11, 12, 13, 14, 15, 16, 17, 18, 19, 20, 21] (by decide) rfl) hS _ (lv_sub hl [0, 3, 1] rfl)
def r_Ord_clash (S P : Nat → Nat → Int32) (x : Nat → Int32) : Int32 × (Nat → Nat → Int32) := let f_1 : Int32 := r_Shop_allHeats S; let f_2 : Int32 := (r_Srch_hasGoodPlan S P x f_1).1; if f_2 = 0 then (q_Ord_clash S x 8 0 f_1 ((r_Srch_hasGoodPlan S P x f_1).2)) else ((0, (r_Srch_hasGoodPlan S P x f_1).2))
set_option maxHeartbeats 4000000 in
set_option maxRecDepth 100000 in
theorem k_Ord_clash (l : Launch) (D : va_G) (cA cZ cL : ClassId) (u b o aa a : Nat) (d g : Nat → Nat) (y x : Nat → Int32) (S P : Nat → Nat → Int32) (hG : ∀ j, vp_in (S 1 j) 6) (hN : ∃ n : Nat, n ≤ 6 ∧ S 0 0 = nI n) (hp : ∀ j, vp_in (P 0 j) 6) : MetI l y_Ord_clash (Cond.code y_Ord_clash c_Ord_clash 4 (some .int) :: base) ({ frames := 13, cells := 0, slots := 0, locals := 306 } : Room) D cls (tys3 cA cZ cL) ([.ref u]) (wOrd u b o aa y ++ wSrch o b a x ++ wPlan cA a d b P ++ wShop cA b g S) (r_Ord_clash S P x).1 (wOrd u b o aa y ++ wSrch o b a x ++ wPlan cA a d b ((r_Ord_clash S P x).2) ++ wShop cA b g S) := by
  intro sz
  refine Met.ofW (cc := c_Ord_clash) (maxL := 4) (ret := (some .int)) (by decide) rfl ?_
  intro p e s m args below meth c s₁ B hml hv
  obtain ⟨rfl, hsz, hP, hK, hZ, hD0⟩ := hv
  have hx := B.exec
  have hb := B.bytes
  have hr := B.returns
  have hts0 := atoms_spec (ws := (Cond.code y_Ord_clash c_Ord_clash 4 (some .int) :: base)) B.pre
  have hts : ∀ w ∈ base, w.before _ s = true := fun w h => hts0 w (List.mem_cons_of_mem _ h)
  have hown : s.vm.findClass R_Ord = some m.cls := findClass_of_methodNamed B.named
  have hlocks := B.notSynchronized
  have hP : va_P D cls [(u, .inr (3, [.ref b, .ref o, .ref aa, .int (y 0), .int (y 1)])), (o, .inr (1, [.ref b, .ref a, .int (x 0), .int (x 1), .int (x 2), .int (x 3), .int (x 4), .int (x 5)])), (a, .inr (0, [.ref b, .ref (d 0), .ref (d 1), .ref (d 2), .ref (d 3), .ref (d 4), .ref (d 5), .ref (d 6), .ref (d 7), .ref (d 8), .ref (d 9), .ref (d 10)])), (d 0, .inl (cA, 6, .inl (P 0))), (d 1, .inl (cA, 6, .inl (P 1))), (d 2, .inl (cA, 6, .inl (P 2))), (d 3, .inl (cA, 6, .inl (P 3))), (d 4, .inl (cA, 6, .inl (P 4))), (d 5, .inl (cA, 6, .inl (P 5))), (d 6, .inl (cA, 6, .inl (P 6))), (d 7, .inl (cA, 6, .inl (P 7))), (d 8, .inl (cA, 7, .inl (P 8))), (d 9, .inl (cA, 7, .inl (P 9))), (d 10, .inl (cA, 7, .inl (P 10))), (b, .inr (2, [.int (S 0 0), .ref (g 1), .ref (g 2), .ref (g 3), .ref (g 4), .ref (g 5), .ref (g 6), .int (S 0 1), .int (S 0 2), .int (S 0 3), .int (S 0 4), .int (S 0 5), .int (S 0 6), .int (S 0 7), .ref (g 7)])), (g 1, .inl (cA, 6, .inl (S 1))), (g 2, .inl (cA, 6, .inl (S 2))), (g 3, .inl (cA, 6, .inl (S 3))), (g 4, .inl (cA, 6, .inl (S 4))), (g 5, .inl (cA, 6, .inl (S 5))), (g 6, .inl (cA, 6, .inl (S 6))), (g 7, .inl (cA, 36, .inl (S 7)))] s.heap := hP
  subst hsz
  have hD := hD0.self (sz := s.heap.size)
  generalize hAe : va_A (wOrd u b o aa y ++ wSrch o b a x ++ wPlan cA a d b P ++ wShop cA b g S) s.heap.size = A at hD ⊢
  have hA : ∀ q : Nat, s.heap.size ≤ q → A q := fun q h => by rw [← hAe]; exact Or.inr h
  have hS : va_S A s.heap s.heap [] := va_S.rf
  have hD : va_D A [(u, .inr (3, [.ref b, .ref o, .ref aa, .int (y 0), .int (y 1)])), (o, .inr (1, [.ref b, .ref a, .int (x 0), .int (x 1), .int (x 2), .int (x 3), .int (x 4), .int (x 5)])), (a, .inr (0, [.ref b, .ref (d 0), .ref (d 1), .ref (d 2), .ref (d 3), .ref (d 4), .ref (d 5), .ref (d 6), .ref (d 7), .ref (d 8), .ref (d 9), .ref (d 10)])), (d 0, .inl (cA, 6, .inl (P 0))), (d 1, .inl (cA, 6, .inl (P 1))), (d 2, .inl (cA, 6, .inl (P 2))), (d 3, .inl (cA, 6, .inl (P 3))), (d 4, .inl (cA, 6, .inl (P 4))), (d 5, .inl (cA, 6, .inl (P 5))), (d 6, .inl (cA, 6, .inl (P 6))), (d 7, .inl (cA, 6, .inl (P 7))), (d 8, .inl (cA, 7, .inl (P 8))), (d 9, .inl (cA, 7, .inl (P 9))), (d 10, .inl (cA, 7, .inl (P 10))), (b, .inr (2, [.int (S 0 0), .ref (g 1), .ref (g 2), .ref (g 3), .ref (g 4), .ref (g 5), .ref (g 6), .int (S 0 1), .int (S 0 2), .int (S 0 3), .int (S 0 4), .int (S 0 5), .int (S 0 6), .int (S 0 7), .ref (g 7)])), (g 1, .inl (cA, 6, .inl (S 1))), (g 2, .inl (cA, 6, .inl (S 2))), (g 3, .inl (cA, 6, .inl (S 3))), (g 4, .inl (cA, 6, .inl (S 4))), (g 5, .inl (cA, 6, .inl (S 5))), (g 6, .inl (cA, 6, .inl (S 6))), (g 7, .inl (cA, 36, .inl (S 7)))] := hD
  have hl := lv_entry ([.ref u]) (n := 4) (Nat.le_of_ble_eq_true rfl)
  rw [lg_entry_eq]
  generalize (lg_sl ([.ref u]) ++ List.replicate (4 - (lg_sl ([.ref u])).length) Slot.unset).toArray = ls at hl ⊢
  have hl : lv_has ls 4 [(0, .ref u)] := hl
  refine lv_aload_n hx hb d_Ord_clash_0 rfl (lv_at hl 0 rfl) ?_
  refine va_get (D := D) (ci := 3) (v := .ref b) (C := R_Ord) (T := T_Ord) (N := 5) hx hb hts i_Ord hown hK hP 0 rfl rfl 0 (by decide) (hts _ mb_190) (fun _ h9 => h9) rfl d_Ord_clash_1 ?_
  refine hr_callV (C := R_Shop) (T := T_Shop) (N := 15) (As := []) (rest := []) ⟨hx, hb, hml, hown, hts⟩ (k_Shop_allHeats l D cA cZ cL b g S  ) (bv_V 0 hts mb_224 (hts _ mb_2) (hts _ mb_221) (hts _ mb_222) (hts _ mb_223) (by decide +kernel) ⟨Nat.le_of_ble_eq_true rfl, Nat.le_of_ble_eq_true rfl⟩) hK hZ hP [14, 15, 16, 17, 18, 19, 20, 21] rfl 14 2 rfl rfl rfl hl.1 rfl (lv_room (Nat.le_of_ble_eq_true rfl)) d_Ord_clash_4 ⟨Nat.zero_le _, Nat.zero_le _⟩ ?_
  refine lv_topi (fun f_1 ef_1 => ?_)
  refine lv_istore_n (lv' := [(1, .int f_1), (0, .ref u)]) hx hb d_Ord_clash_7 rfl hl (by decide) rfl (fun ls hl => ?_)
  refine lv_aload_n hx hb d_Ord_clash_8 rfl (lv_at hl 1 rfl) ?_
  refine va_get (D := D) (ci := 3) (v := .ref o) (C := R_Ord) (T := T_Ord) (N := 5) hx hb hts i_Ord hown hK hP 0 rfl rfl 1 (by decide) (hts _ mb_191) (fun _ h9 => h9) rfl d_Ord_clash_9 ?_
  refine lv_iload_n hx hb d_Ord_clash_12 rfl (lv_at hl 0 rfl) ?_
  refine hw_callVi (C := R_Srch) (T := T_Srch) (N := 8) (wr := [(u, .inr (3, [.ref b, .ref o, .ref aa, .int (y 0), .int (y 1)]))]) (As := [.int f_1]) (rest := []) ⟨hx, hb, hml, hown, hts⟩ (k_Srch_hasGoodPlan l D cA cZ cL o a d b g S P x f_1 hG hN hp) (bv_V 1 hts mb_228 (hts _ mb_3) (hts _ mb_225) (hts _ mb_226) (hts _ mb_227) (by decide +kernel) ⟨Nat.le_of_ble_eq_true rfl, Nat.le_of_ble_eq_true rfl⟩) hK hZ hP hD hS hA [1, 2, 3, 4, 5, 6, 7, 8, 9, 10, 11, 12, 13, 14, 15, 16, 17, 18, 19, 20, 21] [0] rfl rfl (by decide) (by decide) (by decide) 1 1 rfl rfl rfl hl.1 rfl (lv_room (Nat.le_of_ble_eq_true rfl)) d_Ord_clash_13 ⟨Nat.zero_le _, Nat.zero_le _⟩ (fun H locs hP hD hS => ?_)
  have hP : va_P D cls [(u, .inr (3, [.ref b, .ref o, .ref aa, .int (y 0), .int (y 1)])), (o, .inr (1, [.ref b, .ref a, .int (x 0), .int (x 1), .int (x 2), .int (x 3), .int (x 4), .int (x 5)])), (a, .inr (0, [.ref b, .ref (d 0), .ref (d 1), .ref (d 2), .ref (d 3), .ref (d 4), .ref (d 5), .ref (d 6), .ref (d 7), .ref (d 8), .ref (d 9), .ref (d 10)])), (d 0, .inl (cA, 6, .inl ((r_Srch_hasGoodPlan S P x f_1).2 0))), (d 1, .inl (cA, 6, .inl ((r_Srch_hasGoodPlan S P x f_1).2 1))), (d 2, .inl (cA, 6, .inl ((r_Srch_hasGoodPlan S P x f_1).2 2))), (d 3, .inl (cA, 6, .inl ((r_Srch_hasGoodPlan S P x f_1).2 3))), (d 4, .inl (cA, 6, .inl ((r_Srch_hasGoodPlan S P x f_1).2 4))), (d 5, .inl (cA, 6, .inl ((r_Srch_hasGoodPlan S P x f_1).2 5))), (d 6, .inl (cA, 6, .inl ((r_Srch_hasGoodPlan S P x f_1).2 6))), (d 7, .inl (cA, 6, .inl ((r_Srch_hasGoodPlan S P x f_1).2 7))), (d 8, .inl (cA, 7, .inl ((r_Srch_hasGoodPlan S P x f_1).2 8))), (d 9, .inl (cA, 7, .inl ((r_Srch_hasGoodPlan S P x f_1).2 9))), (d 10, .inl (cA, 7, .inl ((r_Srch_hasGoodPlan S P x f_1).2 10))), (b, .inr (2, [.int (S 0 0), .ref (g 1), .ref (g 2), .ref (g 3), .ref (g 4), .ref (g 5), .ref (g 6), .int (S 0 1), .int (S 0 2), .int (S 0 3), .int (S 0 4), .int (S 0 5), .int (S 0 6), .int (S 0 7), .ref (g 7)])), (g 1, .inl (cA, 6, .inl (S 1))), (g 2, .inl (cA, 6, .inl (S 2))), (g 3, .inl (cA, 6, .inl (S 3))), (g 4, .inl (cA, 6, .inl (S 4))), (g 5, .inl (cA, 6, .inl (S 5))), (g 6, .inl (cA, 6, .inl (S 6))), (g 7, .inl (cA, 36, .inl (S 7)))] H := hP
  have hD : va_D A [(u, .inr (3, [.ref b, .ref o, .ref aa, .int (y 0), .int (y 1)])), (o, .inr (1, [.ref b, .ref a, .int (x 0), .int (x 1), .int (x 2), .int (x 3), .int (x 4), .int (x 5)])), (a, .inr (0, [.ref b, .ref (d 0), .ref (d 1), .ref (d 2), .ref (d 3), .ref (d 4), .ref (d 5), .ref (d 6), .ref (d 7), .ref (d 8), .ref (d 9), .ref (d 10)])), (d 0, .inl (cA, 6, .inl ((r_Srch_hasGoodPlan S P x f_1).2 0))), (d 1, .inl (cA, 6, .inl ((r_Srch_hasGoodPlan S P x f_1).2 1))), (d 2, .inl (cA, 6, .inl ((r_Srch_hasGoodPlan S P x f_1).2 2))), (d 3, .inl (cA, 6, .inl ((r_Srch_hasGoodPlan S P x f_1).2 3))), (d 4, .inl (cA, 6, .inl ((r_Srch_hasGoodPlan S P x f_1).2 4))), (d 5, .inl (cA, 6, .inl ((r_Srch_hasGoodPlan S P x f_1).2 5))), (d 6, .inl (cA, 6, .inl ((r_Srch_hasGoodPlan S P x f_1).2 6))), (d 7, .inl (cA, 6, .inl ((r_Srch_hasGoodPlan S P x f_1).2 7))), (d 8, .inl (cA, 7, .inl ((r_Srch_hasGoodPlan S P x f_1).2 8))), (d 9, .inl (cA, 7, .inl ((r_Srch_hasGoodPlan S P x f_1).2 9))), (d 10, .inl (cA, 7, .inl ((r_Srch_hasGoodPlan S P x f_1).2 10))), (b, .inr (2, [.int (S 0 0), .ref (g 1), .ref (g 2), .ref (g 3), .ref (g 4), .ref (g 5), .ref (g 6), .int (S 0 1), .int (S 0 2), .int (S 0 3), .int (S 0 4), .int (S 0 5), .int (S 0 6), .int (S 0 7), .ref (g 7)])), (g 1, .inl (cA, 6, .inl (S 1))), (g 2, .inl (cA, 6, .inl (S 2))), (g 3, .inl (cA, 6, .inl (S 3))), (g 4, .inl (cA, 6, .inl (S 4))), (g 5, .inl (cA, 6, .inl (S 5))), (g 6, .inl (cA, 6, .inl (S 6))), (g 7, .inl (cA, 36, .inl (S 7)))] := hD
  refine lv_topi (fun f_2 ef_2 => ?_)
  refine lv_if_eq (tgt := 21) hx hb d_Ord_clash_16 (by decide) (fun c_3 => ?_) (fun c_3 => ?_)
  · skip
    refine lv_iconst (v := 0) hx hb d_Ord_clash_21 (by decide) ?_
    refine lv_istore_n (lv' := [(2, .int 0), (1, .int f_1), (0, .ref u)]) hx hb d_Ord_clash_22 rfl hl (by decide) rfl (fun ls hl => ?_)
    have e9 : r_Ord_clash S P x = q_Ord_clash S x 8 0 f_1 ((r_Srch_hasGoodPlan S P x f_1).2) := by
      subst ef_1 ef_2; unfold r_Ord_clash; simp only [if_pos c_3]
    rw [e9]
    exact (lp_Ord_clash u b o aa a d g y x S hG hN hx hb hr hml hts hown hlocks hK hZ hA 8) 0 f_1 ((r_Srch_hasGoodPlan S P x f_1).2) ⟨by decide, (hgp_hp hN hp)⟩ _ _ (hP.sub [0, 1, 2, 3, 4, 5, 6, 7, 8, 9, 10, 11, 12, 13, 14, 15, 16, 17, 18, 19, 20, 21] rfl) (hD.sub [0, 1, 2, 3, 4, 5, 6, 7, 8, 9, 10, 11, 12, 13, 14, 15, 16, 17, 18, 19, 20, 21] (by decide) rfl) hS _ (lv_sub hl [0, 2, 1] rfl)
  · skip
    refine lv_iconst (v := 0) hx hb d_Ord_clash_19 (by decide) ?_
    have e9 : r_Ord_clash S P x = (0, (r_Srch_hasGoodPlan S P x f_1).2) := by
      subst ef_1 ef_2; unfold r_Ord_clash; simp only [if_neg c_3]
    exact W.iret (v := 0) hx hb hr (fun t ht hW => ⟨⟨_, (), rfl, (by rw [e9]), (by rw [e9, ht]; exact hP.sub [0, 1, 2, 3, 4, 5, 6, 7, 8, 9, 10, 11, 12, 13, 14, 15, 16, 17, 18, 19, 20, 21] rfl), (by rw [e9]; exact hD.sub [0, 1, 2, 3, 4, 5, 6, 7, 8, 9, 10, 11, 12, 13, 14, 15, 16, 17, 18, 19, 20, 21] (by decide) rfl)⟩, hS.F ht⟩) hS.2.2 d_Ord_clash_20
