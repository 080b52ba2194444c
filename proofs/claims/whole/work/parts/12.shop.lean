/-! the shop's methods -/
theorem bool_nar {v : Int32} (h : v = 0 ∨ v = 1) : narrow .boolean (.int v) = .int v := by
  rcases h with rfl | rfl <;> rfl
theorem bool_fit {v : Int32} (h : v = 0 ∨ v = 1) : fits .boolean (.int v) = true := by
  rcases h with rfl | rfl <;> rfl
theorem b_within (v a b : Int32) : r_Ord_within v a b = 0 ∨ r_Ord_within v a b = 1 := by
  unfold r_Ord_within
  split
  · exact Or.inl rfl
  · split
    · exact Or.inl rfl
    · exact Or.inr rfl
def r_Ord_isDue (v : Int32) : Int32 := let f_1 : Int32 := r_Ord_within v 0 10000; f_1
set_option maxHeartbeats 4000000 in
set_option maxRecDepth 100000 in
theorem k_Ord_isDue (l : Launch) (D : va_G) (cA cZ cL : ClassId) (v : Int32)  : MetR l y_Ord_isDue (Cond.code y_Ord_isDue c_Ord_isDue 1 (some .boolean) :: base) ({ frames := 1, cells := 0, slots := 0, locals := 22 } : Room) D cls (tys3 cA cZ cL) ([.int v]) ([]) (r_Ord_isDue v) := by
  refine Met.ofW (cc := c_Ord_isDue) (maxL := 1) (ret := (some .boolean)) (by decide) rfl ?_
  intro p e s m args below meth c s₁ B hml hv
  obtain ⟨rfl, hP, hK, hZ⟩ := hv
  have hx := B.exec
  have hb := B.bytes
  have hr := B.returns
  have hts0 := atoms_spec (ws := (Cond.code y_Ord_isDue c_Ord_isDue 1 (some .boolean) :: base)) B.pre
  have hts : ∀ w ∈ base, w.before _ s = true := fun w h => hts0 w (List.mem_cons_of_mem _ h)
  have hown : s.vm.findClass R_Ord = some m.cls := findClass_of_methodNamed B.named
  have hlocks := B.notSynchronized
  have hP : va_P D cls [] s.heap := hP
  have hl := lv_entry ([.int v]) (n := 1) (Nat.le_of_ble_eq_true rfl)
  rw [lg_entry_eq]
  generalize (lg_sl ([.int v]) ++ List.replicate (1 - (lg_sl ([.int v])).length) Slot.unset).toArray = ls at hl ⊢
  have hl : lv_has ls 1 [(0, .int v)] := hl
  refine lv_iload_n hx hb d_Ord_isDue_0 rfl (lv_at hl 0 rfl) ?_
  refine lv_iconst (v := 0) hx hb d_Ord_isDue_1 (by decide) ?_
  refine lv_sipush (v := 10000) hx hb d_Ord_isDue_2 (by decide) ?_
  refine hr_callS (As := [.int v, .int 0, .int 10000]) (rest := []) ⟨hx, hb, hml, hown, hts⟩ (k_Ord_within l D cA cZ cL v 0 10000) (bs_S 3 hts mb_239 (hts _ mb_1) (hts _ mb_343) (hts _ mb_238) (by decide +kernel) ⟨Nat.le_of_ble_eq_true rfl, Nat.le_of_ble_eq_true rfl⟩) hK hZ hP [] rfl rfl hl.1 rfl (lv_room (Nat.le_of_ble_eq_true rfl)) d_Ord_isDue_5 ⟨Nat.zero_le _, Nat.zero_le _⟩ ?_
  refine lv_topi (fun f_1 ef_1 => ?_)
  have e9 : r_Ord_isDue v = f_1 := by
    subst ef_1; rfl
  exact W.zret (v := f_1) hx hb hr (bool_nar (by rw [ef_1]; exact b_within _ _ _)) (fun t ht _ => ⟨_, rfl, e9.symm, ht⟩) (fun _ h => by cases h) d_Ord_isDue_8
def r_Shop_allHeats (S : Nat → Nat → Int32) : Int32 := let f_1 : Int32 := 1 <<< (S 0 0 &&& 31); let f_2 : Int32 := f_1 - 1; f_2
set_option maxHeartbeats 4000000 in
set_option maxRecDepth 100000 in
theorem k_Shop_allHeats (l : Launch) (D : va_G) (cA cZ cL : ClassId) (a : Nat) (d : Nat → Nat) (S : Nat → Nat → Int32)  : MetR l y_Shop_allHeats (Cond.code y_Shop_allHeats c_Shop_allHeats 1 (some .int) :: base) ({ frames := 0, cells := 0, slots := 0, locals := 0 } : Room) D cls (tys3 cA cZ cL) ([.ref a]) (wShop cA a d S) (r_Shop_allHeats S) := by
  refine Met.ofW (cc := c_Shop_allHeats) (maxL := 1) (ret := (some .int)) (by decide) rfl ?_
  intro p e s m args below meth c s₁ B hml hv
  obtain ⟨rfl, hP, hK, hZ⟩ := hv
  have hx := B.exec
  have hb := B.bytes
  have hr := B.returns
  have hts0 := atoms_spec (ws := (Cond.code y_Shop_allHeats c_Shop_allHeats 1 (some .int) :: base)) B.pre
  have hts : ∀ w ∈ base, w.before _ s = true := fun w h => hts0 w (List.mem_cons_of_mem _ h)
  have hown : s.vm.findClass R_Shop = some m.cls := findClass_of_methodNamed B.named
  have hlocks := B.notSynchronized
  have hP : va_P D cls [(a, .inr (2, [.int (S 0 0), .ref (d 1), .ref (d 2), .ref (d 3), .ref (d 4), .ref (d 5), .ref (d 6), .int (S 0 1), .int (S 0 2), .int (S 0 3), .int (S 0 4), .int (S 0 5), .int (S 0 6), .int (S 0 7), .ref (d 7)])), (d 1, .inl (cA, 6, .inl (S 1))), (d 2, .inl (cA, 6, .inl (S 2))), (d 3, .inl (cA, 6, .inl (S 3))), (d 4, .inl (cA, 6, .inl (S 4))), (d 5, .inl (cA, 6, .inl (S 5))), (d 6, .inl (cA, 6, .inl (S 6))), (d 7, .inl (cA, 36, .inl (S 7)))] s.heap := hP
  have hl := lv_entry ([.ref a]) (n := 1) (Nat.le_of_ble_eq_true rfl)
  rw [lg_entry_eq]
  generalize (lg_sl ([.ref a]) ++ List.replicate (1 - (lg_sl ([.ref a])).length) Slot.unset).toArray = ls at hl ⊢
  have hl : lv_has ls 1 [(0, .ref a)] := hl
  refine lv_iconst (v := 1) hx hb d_Shop_allHeats_0 (by decide) ?_
  refine lv_aload_n hx hb d_Shop_allHeats_1 rfl (lv_at hl 0 rfl) ?_
  refine va_get (D := D) (ci := 2) (v := .int (S 0 0)) (C := R_Shop) (T := T_Shop) (N := 15) hx hb hts i_Shop hown hK hP 0 rfl rfl 0 (by decide) (hts _ mb_28) (fun _ h9 => h9) rfl d_Shop_allHeats_2 ?_
  refine lv_ishl hx hb d_Shop_allHeats_5 ?_
  refine lv_topi (fun f_1 ef_1 => ?_)
  refine lv_iconst (v := 1) hx hb d_Shop_allHeats_6 (by decide) ?_
  refine lv_isub hx hb d_Shop_allHeats_7 ?_
  refine lv_topi (fun f_2 ef_2 => ?_)
  have e9 : r_Shop_allHeats S = f_2 := by
    subst ef_1 ef_2; rfl
  exact W.iret (v := f_2) hx hb hr (fun t ht _ => ⟨_, rfl, e9.symm, ht⟩) (fun _ h => by cases h) d_Shop_allHeats_8
def r_Shop_mayCast (S : Nat → Nat → Int32) (h q : Int32) : Int32 := let f_1 : Int32 := S 6 h.toNatClampNeg; let f_2 : Int32 := f_1 >>> (q &&& 31); let f_3 : Int32 := f_2 &&& 1; if f_3 = 1 then (1) else (0)
set_option maxHeartbeats 4000000 in
set_option maxRecDepth 100000 in
theorem k_Shop_mayCast (l : Launch) (D : va_G) (cA cZ cL : ClassId) (a : Nat) (d : Nat → Nat) (S : Nat → Nat → Int32) (h q : Int32) (hh : vp_in h 6) : MetR l y_Shop_mayCast (Cond.code y_Shop_mayCast c_Shop_mayCast 3 (some .boolean) :: base) ({ frames := 0, cells := 0, slots := 0, locals := 0 } : Room) D cls (tys3 cA cZ cL) ([.ref a, .int h, .int q]) (wShop cA a d S) (r_Shop_mayCast S h q) := by
  refine Met.ofW (cc := c_Shop_mayCast) (maxL := 3) (ret := (some .boolean)) (by decide) rfl ?_
  intro p e s m args below meth c s₁ B hml hv
  obtain ⟨rfl, hP, hK, hZ⟩ := hv
  have hx := B.exec
  have hb := B.bytes
  have hr := B.returns
  have hts0 := atoms_spec (ws := (Cond.code y_Shop_mayCast c_Shop_mayCast 3 (some .boolean) :: base)) B.pre
  have hts : ∀ w ∈ base, w.before _ s = true := fun w h => hts0 w (List.mem_cons_of_mem _ h)
  have hown : s.vm.findClass R_Shop = some m.cls := findClass_of_methodNamed B.named
  have hlocks := B.notSynchronized
  have hP : va_P D cls [(a, .inr (2, [.int (S 0 0), .ref (d 1), .ref (d 2), .ref (d 3), .ref (d 4), .ref (d 5), .ref (d 6), .int (S 0 1), .int (S 0 2), .int (S 0 3), .int (S 0 4), .int (S 0 5), .int (S 0 6), .int (S 0 7), .ref (d 7)])), (d 1, .inl (cA, 6, .inl (S 1))), (d 2, .inl (cA, 6, .inl (S 2))), (d 3, .inl (cA, 6, .inl (S 3))), (d 4, .inl (cA, 6, .inl (S 4))), (d 5, .inl (cA, 6, .inl (S 5))), (d 6, .inl (cA, 6, .inl (S 6))), (d 7, .inl (cA, 36, .inl (S 7)))] s.heap := hP
  have hl := lv_entry ([.ref a, .int h, .int q]) (n := 3) (Nat.le_of_ble_eq_true rfl)
  rw [lg_entry_eq]
  generalize (lg_sl ([.ref a, .int h, .int q]) ++ List.replicate (3 - (lg_sl ([.ref a, .int h, .int q])).length) Slot.unset).toArray = ls at hl ⊢
  have hl : lv_has ls 3 [(0, .ref a), (1, .int h), (2, .int q)] := hl
  refine lv_aload_n hx hb d_Shop_mayCast_0 rfl (lv_at hl 0 rfl) ?_
  refine va_get (D := D) (ci := 2) (v := .ref (d 6)) (C := R_Shop) (T := T_Shop) (N := 15) hx hb hts i_Shop hown hK hP 0 rfl rfl 6 (by decide) (hts _ mb_43) (fun _ h9 => h9) rfl d_Shop_mayCast_1 ?_
  refine lv_iload_n hx hb d_Shop_mayCast_4 rfl (lv_at hl 1 rfl) ?_
  refine va_iald hx hb hK hP 6 0 rfl rfl hh d_Shop_mayCast_5 ?_
  refine lv_topi (fun f_1 ef_1 => ?_)
  refine lv_iload_n hx hb d_Shop_mayCast_6 rfl (lv_at hl 2 rfl) ?_
  refine lv_ishr hx hb d_Shop_mayCast_7 ?_
  refine lv_topi (fun f_2 ef_2 => ?_)
  refine lv_iconst (v := 1) hx hb d_Shop_mayCast_8 (by decide) ?_
  refine lv_iand hx hb d_Shop_mayCast_9 ?_
  refine lv_topi (fun f_3 ef_3 => ?_)
  refine lv_iconst (v := 1) hx hb d_Shop_mayCast_10 (by decide) ?_
  refine lv_icmp_ne (tgt := 18) hx hb d_Shop_mayCast_11 (by decide) (fun c_4 => ?_) (fun c_4 => ?_)
  · skip
    refine lv_iconst (v := 0) hx hb d_Shop_mayCast_18 (by decide) ?_
    have e9 : r_Shop_mayCast S h q = 0 := by
      subst ef_1 ef_2 ef_3; unfold r_Shop_mayCast; simp only [if_neg c_4]
    exact W.zret (v := 0) hx hb hr rfl (fun t ht _ => ⟨_, rfl, e9.symm, ht⟩) (fun _ h => by cases h) d_Shop_mayCast_19
  · skip
    refine lv_iconst (v := 1) hx hb d_Shop_mayCast_14 (by decide) ?_
    refine lv_goto (tgt := 19) hx hb d_Shop_mayCast_15 (by decide) ?_
    have e9 : r_Shop_mayCast S h q = 1 := by
      subst ef_1 ef_2 ef_3; unfold r_Shop_mayCast; simp only [if_pos c_4]
    exact W.zret (v := 1) hx hb hr rfl (fun t ht _ => ⟨_, rfl, e9.symm, ht⟩) (fun _ h => by cases h) d_Shop_mayCast_19
def r_Shop_moveBetween (S : Nat → Nat → Int32) (h q : Int32) : Int32 := let f_1 : Int32 := S 1 h.toNatClampNeg; let f_2 : Int32 := f_1 * 6; let f_3 : Int32 := S 1 q.toNatClampNeg; let f_4 : Int32 := f_2 + f_3; let f_5 : Int32 := S 7 f_4.toNatClampNeg; f_5
set_option maxHeartbeats 4000000 in
set_option maxRecDepth 100000 in
theorem k_Shop_moveBetween (l : Launch) (D : va_G) (cA cZ cL : ClassId) (a : Nat) (d : Nat → Nat) (S : Nat → Nat → Int32) (h q : Int32) (hG : ∀ j, vp_in (S 1 j) 6) (hh : vp_in h 6) (hq : vp_in q 6) : MetR l y_Shop_moveBetween (Cond.code y_Shop_moveBetween c_Shop_moveBetween 3 (some .int) :: base) ({ frames := 0, cells := 0, slots := 0, locals := 0 } : Room) D cls (tys3 cA cZ cL) ([.ref a, .int h, .int q]) (wShop cA a d S) (r_Shop_moveBetween S h q) := by
  refine Met.ofW (cc := c_Shop_moveBetween) (maxL := 3) (ret := (some .int)) (by decide) rfl ?_
  intro p e s m args below meth c s₁ B hml hv
  obtain ⟨rfl, hP, hK, hZ⟩ := hv
  have hx := B.exec
  have hb := B.bytes
  have hr := B.returns
  have hts0 := atoms_spec (ws := (Cond.code y_Shop_moveBetween c_Shop_moveBetween 3 (some .int) :: base)) B.pre
  have hts : ∀ w ∈ base, w.before _ s = true := fun w h => hts0 w (List.mem_cons_of_mem _ h)
  have hown : s.vm.findClass R_Shop = some m.cls := findClass_of_methodNamed B.named
  have hlocks := B.notSynchronized
  have hP : va_P D cls [(a, .inr (2, [.int (S 0 0), .ref (d 1), .ref (d 2), .ref (d 3), .ref (d 4), .ref (d 5), .ref (d 6), .int (S 0 1), .int (S 0 2), .int (S 0 3), .int (S 0 4), .int (S 0 5), .int (S 0 6), .int (S 0 7), .ref (d 7)])), (d 1, .inl (cA, 6, .inl (S 1))), (d 2, .inl (cA, 6, .inl (S 2))), (d 3, .inl (cA, 6, .inl (S 3))), (d 4, .inl (cA, 6, .inl (S 4))), (d 5, .inl (cA, 6, .inl (S 5))), (d 6, .inl (cA, 6, .inl (S 6))), (d 7, .inl (cA, 36, .inl (S 7)))] s.heap := hP
  have hl := lv_entry ([.ref a, .int h, .int q]) (n := 3) (Nat.le_of_ble_eq_true rfl)
  rw [lg_entry_eq]
  generalize (lg_sl ([.ref a, .int h, .int q]) ++ List.replicate (3 - (lg_sl ([.ref a, .int h, .int q])).length) Slot.unset).toArray = ls at hl ⊢
  have hl : lv_has ls 3 [(0, .ref a), (1, .int h), (2, .int q)] := hl
  refine lv_aload_n hx hb d_Shop_moveBetween_0 rfl (lv_at hl 0 rfl) ?_
  refine va_get (D := D) (ci := 2) (v := .ref (d 7)) (C := R_Shop) (T := T_Shop) (N := 15) hx hb hts i_Shop hown hK hP 0 rfl rfl 14 (by decide) (hts _ mb_65) (fun _ h9 => h9) rfl d_Shop_moveBetween_1 ?_
  refine lv_aload_n hx hb d_Shop_moveBetween_4 rfl (lv_at hl 0 rfl) ?_
  refine va_get (D := D) (ci := 2) (v := .ref (d 1)) (C := R_Shop) (T := T_Shop) (N := 15) hx hb hts i_Shop hown hK hP 0 rfl rfl 1 (by decide) (hts _ mb_32) (fun _ h9 => h9) rfl d_Shop_moveBetween_5 ?_
  refine lv_iload_n hx hb d_Shop_moveBetween_8 rfl (lv_at hl 1 rfl) ?_
  refine va_iald hx hb hK hP 1 0 rfl rfl hh d_Shop_moveBetween_9 ?_
  refine lv_topi (fun f_1 ef_1 => ?_)
  refine lv_bipush (v := 6) hx hb d_Shop_moveBetween_10 (by decide) ?_
  refine lv_imul hx hb d_Shop_moveBetween_12 ?_
  refine lv_topi (fun f_2 ef_2 => ?_)
  refine lv_aload_n hx hb d_Shop_moveBetween_13 rfl (lv_at hl 0 rfl) ?_
  refine va_get (D := D) (ci := 2) (v := .ref (d 1)) (C := R_Shop) (T := T_Shop) (N := 15) hx hb hts i_Shop hown hK hP 0 rfl rfl 1 (by decide) (hts _ mb_32) (fun _ h9 => h9) rfl d_Shop_moveBetween_14 ?_
  refine lv_iload_n hx hb d_Shop_moveBetween_17 rfl (lv_at hl 2 rfl) ?_
  refine va_iald hx hb hK hP 1 0 rfl rfl hq d_Shop_moveBetween_18 ?_
  refine lv_topi (fun f_3 ef_3 => ?_)
  refine lv_iadd hx hb d_Shop_moveBetween_19 ?_
  refine lv_topi (fun f_4 ef_4 => ?_)
  refine va_iald hx hb hK hP 7 0 rfl rfl (by subst ef_1 ef_2 ef_3 ef_4; exact in_66 (hG _) (hG _)) d_Shop_moveBetween_20 ?_
  refine lv_topi (fun f_5 ef_5 => ?_)
  have e9 : r_Shop_moveBetween S h q = f_5 := by
    subst ef_1 ef_2 ef_3 ef_4 ef_5; rfl
  exact W.iret (v := f_5) hx hb hr (fun t ht _ => ⟨_, rfl, e9.symm, ht⟩) (fun _ h => by cases h) d_Shop_moveBetween_21
def r_Shop_lateMinutes (S : Nat → Nat → Int32) (h q : Int32) : Int32 := let f_1 : Int32 := S 5 h.toNatClampNeg; let f_2 : Int32 := q - f_1; let f_3 : Int32 := if 0 < f_2 then f_2 else 0; f_3
set_option maxHeartbeats 4000000 in
set_option maxRecDepth 100000 in
theorem k_Shop_lateMinutes (l : Launch) (D : va_G) (cA cZ cL : ClassId) (a : Nat) (d : Nat → Nat) (S : Nat → Nat → Int32) (h q : Int32) (hh : vp_in h 6) : MetR l y_Shop_lateMinutes (Cond.code y_Shop_lateMinutes c_Shop_lateMinutes 3 (some .int) :: base) ({ frames := 1, cells := 0, slots := 0, locals := 21 } : Room) D cls (tys3 cA cZ cL) ([.ref a, .int h, .int q]) (wShop cA a d S) (r_Shop_lateMinutes S h q) := by
  refine Met.ofW (cc := c_Shop_lateMinutes) (maxL := 3) (ret := (some .int)) (by decide) rfl ?_
  intro p e s m args below meth c s₁ B hml hv
  obtain ⟨rfl, hP, hK, hZ⟩ := hv
  have hx := B.exec
  have hb := B.bytes
  have hr := B.returns
  have hts0 := atoms_spec (ws := (Cond.code y_Shop_lateMinutes c_Shop_lateMinutes 3 (some .int) :: base)) B.pre
  have hts : ∀ w ∈ base, w.before _ s = true := fun w h => hts0 w (List.mem_cons_of_mem _ h)
  have hown : s.vm.findClass R_Shop = some m.cls := findClass_of_methodNamed B.named
  have hlocks := B.notSynchronized
  have hP : va_P D cls [(a, .inr (2, [.int (S 0 0), .ref (d 1), .ref (d 2), .ref (d 3), .ref (d 4), .ref (d 5), .ref (d 6), .int (S 0 1), .int (S 0 2), .int (S 0 3), .int (S 0 4), .int (S 0 5), .int (S 0 6), .int (S 0 7), .ref (d 7)])), (d 1, .inl (cA, 6, .inl (S 1))), (d 2, .inl (cA, 6, .inl (S 2))), (d 3, .inl (cA, 6, .inl (S 3))), (d 4, .inl (cA, 6, .inl (S 4))), (d 5, .inl (cA, 6, .inl (S 5))), (d 6, .inl (cA, 6, .inl (S 6))), (d 7, .inl (cA, 36, .inl (S 7)))] s.heap := hP
  have hl := lv_entry ([.ref a, .int h, .int q]) (n := 3) (Nat.le_of_ble_eq_true rfl)
  rw [lg_entry_eq]
  generalize (lg_sl ([.ref a, .int h, .int q]) ++ List.replicate (3 - (lg_sl ([.ref a, .int h, .int q])).length) Slot.unset).toArray = ls at hl ⊢
  have hl : lv_has ls 3 [(0, .ref a), (1, .int h), (2, .int q)] := hl
  refine lv_iconst (v := 0) hx hb d_Shop_lateMinutes_0 (by decide) ?_
  refine lv_iload_n hx hb d_Shop_lateMinutes_1 rfl (lv_at hl 2 rfl) ?_
  refine lv_aload_n hx hb d_Shop_lateMinutes_2 rfl (lv_at hl 0 rfl) ?_
  refine va_get (D := D) (ci := 2) (v := .ref (d 5)) (C := R_Shop) (T := T_Shop) (N := 15) hx hb hts i_Shop hown hK hP 0 rfl rfl 5 (by decide) (hts _ mb_41) (fun _ h9 => h9) rfl d_Shop_lateMinutes_3 ?_
  refine lv_iload_n hx hb d_Shop_lateMinutes_6 rfl (lv_at hl 1 rfl) ?_
  refine va_iald hx hb hK hP 5 0 rfl rfl hh d_Shop_lateMinutes_7 ?_
  refine lv_topi (fun f_1 ef_1 => ?_)
  refine lv_isub hx hb d_Shop_lateMinutes_8 ?_
  refine lv_topi (fun f_2 ef_2 => ?_)
  refine va_mmax hx hb (hml.trans hl.1.symm) hown (hts _ mb_214) (hts _ mb_215) (hts _ mb_12) (hts _ mb_216) (Nat.le_of_ble_eq_true rfl) (Nat.le_of_ble_eq_true rfl) (Nat.zero_le _) (Nat.zero_le _) d_Shop_lateMinutes_9 ?_
  refine lv_topi (fun f_3 ef_3 => ?_)
  have e9 : r_Shop_lateMinutes S h q = f_3 := by
    subst ef_1 ef_2 ef_3; rfl
  exact W.iret (v := f_3) hx hb hr (fun t ht _ => ⟨_, rfl, e9.symm, ht⟩) (fun _ h => by cases h) d_Shop_lateMinutes_12
