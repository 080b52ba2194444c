/-! the class' static methods and the shop's reading ones -/
def r_Ord_within (v a b : Int32) : Int32 := if v < a then (0) else (if b < v then (0) else (1))
set_option maxHeartbeats 4000000 in
set_option maxRecDepth 100000 in
theorem k_Ord_within (l : Launch) (D : va_G) (cA cZ cL : ClassId) (v a b : Int32)  : MetR l y_Ord_within (Cond.code y_Ord_within c_Ord_within 3 (some .boolean) :: base) ({ frames := 0, cells := 0, slots := 0, locals := 0 } : Room) D cls (tys3 cA cZ cL) ([.int v, .int a, .int b]) ([]) (r_Ord_within v a b) := by
  refine Met.ofW (cc := c_Ord_within) (maxL := 3) (ret := (some .boolean)) (by decide) rfl ?_
  intro p e s m args below meth c s₁ B hml hv
  obtain ⟨rfl, hP, hK, hZ⟩ := hv
  have hx := B.exec
  have hb := B.bytes
  have hr := B.returns
  have hts0 := atoms_spec (ws := (Cond.code y_Ord_within c_Ord_within 3 (some .boolean) :: base)) B.pre
  have hts : ∀ w ∈ base, w.before _ s = true := fun w h => hts0 w (List.mem_cons_of_mem _ h)
  have hown : s.vm.findClass R_Ord = some m.cls := findClass_of_methodNamed B.named
  have hlocks := B.notSynchronized
  have hP : va_P D cls [] s.heap := hP
  have hl := lv_entry ([.int v, .int a, .int b]) (n := 3) (Nat.le_of_ble_eq_true rfl)
  rw [lg_entry_eq]
  generalize (lg_sl ([.int v, .int a, .int b]) ++ List.replicate (3 - (lg_sl ([.int v, .int a, .int b])).length) Slot.unset).toArray = ls at hl ⊢
  have hl : lv_has ls 3 [(0, .int v), (1, .int a), (2, .int b)] := hl
  refine lv_iload_n hx hb d_Ord_within_0 rfl (lv_at hl 0 rfl) ?_
  refine lv_iload_n hx hb d_Ord_within_1 rfl (lv_at hl 1 rfl) ?_
  refine lv_icmp_lt (tgt := 14) hx hb d_Ord_within_2 (by decide) (fun c_1 => ?_) (fun c_1 => ?_)
  · skip
    refine lv_iconst (v := 0) hx hb d_Ord_within_14 (by decide) ?_
    have e9 : r_Ord_within v a b = 0 := by
      unfold r_Ord_within; simp only [if_pos c_1]
    exact W.zret (v := 0) hx hb hr rfl (fun t ht _ => ⟨_, rfl, e9.symm, ht⟩) (fun _ h => by cases h) d_Ord_within_15
  · skip
    refine lv_iload_n hx hb d_Ord_within_5 rfl (lv_at hl 0 rfl) ?_
    refine lv_iload_n hx hb d_Ord_within_6 rfl (lv_at hl 2 rfl) ?_
    refine lv_icmp_gt (tgt := 14) hx hb d_Ord_within_7 (by decide) (fun c_2 => ?_) (fun c_2 => ?_)
    · skip
      refine lv_iconst (v := 0) hx hb d_Ord_within_14 (by decide) ?_
      have e9 : r_Ord_within v a b = 0 := by
        unfold r_Ord_within; simp only [if_neg c_1, if_pos c_2]
      exact W.zret (v := 0) hx hb hr rfl (fun t ht _ => ⟨_, rfl, e9.symm, ht⟩) (fun _ h => by cases h) d_Ord_within_15
    · skip
      refine lv_iconst (v := 1) hx hb d_Ord_within_10 (by decide) ?_
      refine lv_goto (tgt := 15) hx hb d_Ord_within_11 (by decide) ?_
      have e9 : r_Ord_within v a b = 1 := by
        unfold r_Ord_within; simp only [if_neg c_1, if_neg c_2]
      exact W.zret (v := 1) hx hb hr rfl (fun t ht _ => ⟨_, rfl, e9.symm, ht⟩) (fun _ h => by cases h) d_Ord_within_15
def r_Ord_heatOf (v k : Int32) : Int32 := let f_1 : Int32 := 4 * k; let f_2 : Int32 := v >>> (f_1 &&& 31); let f_3 : Int32 := f_2 &&& 7; f_3
set_option maxHeartbeats 4000000 in
set_option maxRecDepth 100000 in
theorem k_Ord_heatOf (l : Launch) (D : va_G) (cA cZ cL : ClassId) (v k : Int32)  : MetR l y_Ord_heatOf (Cond.code y_Ord_heatOf c_Ord_heatOf 2 (some .int) :: base) ({ frames := 0, cells := 0, slots := 0, locals := 0 } : Room) D cls (tys3 cA cZ cL) ([.int v, .int k]) ([]) (r_Ord_heatOf v k) := by
  refine Met.ofW (cc := c_Ord_heatOf) (maxL := 2) (ret := (some .int)) (by decide) rfl ?_
  intro p e s m args below meth c s₁ B hml hv
  obtain ⟨rfl, hP, hK, hZ⟩ := hv
  have hx := B.exec
  have hb := B.bytes
  have hr := B.returns
  have hts0 := atoms_spec (ws := (Cond.code y_Ord_heatOf c_Ord_heatOf 2 (some .int) :: base)) B.pre
  have hts : ∀ w ∈ base, w.before _ s = true := fun w h => hts0 w (List.mem_cons_of_mem _ h)
  have hown : s.vm.findClass R_Ord = some m.cls := findClass_of_methodNamed B.named
  have hlocks := B.notSynchronized
  have hP : va_P D cls [] s.heap := hP
  have hl := lv_entry ([.int v, .int k]) (n := 2) (Nat.le_of_ble_eq_true rfl)
  rw [lg_entry_eq]
  generalize (lg_sl ([.int v, .int k]) ++ List.replicate (2 - (lg_sl ([.int v, .int k])).length) Slot.unset).toArray = ls at hl ⊢
  have hl : lv_has ls 2 [(0, .int v), (1, .int k)] := hl
  refine lv_iload_n hx hb d_Ord_heatOf_0 rfl (lv_at hl 0 rfl) ?_
  refine lv_iconst (v := 4) hx hb d_Ord_heatOf_1 (by decide) ?_
  refine lv_iload_n hx hb d_Ord_heatOf_2 rfl (lv_at hl 1 rfl) ?_
  refine lv_imul hx hb d_Ord_heatOf_3 ?_
  refine lv_topi (fun f_1 ef_1 => ?_)
  refine lv_ishr hx hb d_Ord_heatOf_4 ?_
  refine lv_topi (fun f_2 ef_2 => ?_)
  refine lv_bipush (v := 7) hx hb d_Ord_heatOf_5 (by decide) ?_
  refine lv_iand hx hb d_Ord_heatOf_7 ?_
  refine lv_topi (fun f_3 ef_3 => ?_)
  have e9 : r_Ord_heatOf v k = f_3 := by
    subst ef_1 ef_2 ef_3; rfl
  exact W.iret (v := f_3) hx hb hr (fun t ht _ => ⟨_, rfl, e9.symm, ht⟩) (fun _ h => by cases h) d_Ord_heatOf_8
def r_Ord_casterOf (v k : Int32) : Int32 := let f_1 : Int32 := 4 * k; let f_2 : Int32 := f_1 + 3; let f_3 : Int32 := v >>> (f_2 &&& 31); let f_4 : Int32 := f_3 &&& 1; f_4
set_option maxHeartbeats 4000000 in
set_option maxRecDepth 100000 in
theorem k_Ord_casterOf (l : Launch) (D : va_G) (cA cZ cL : ClassId) (v k : Int32)  : MetR l y_Ord_casterOf (Cond.code y_Ord_casterOf c_Ord_casterOf 2 (some .int) :: base) ({ frames := 0, cells := 0, slots := 0, locals := 0 } : Room) D cls (tys3 cA cZ cL) ([.int v, .int k]) ([]) (r_Ord_casterOf v k) := by
  refine Met.ofW (cc := c_Ord_casterOf) (maxL := 2) (ret := (some .int)) (by decide) rfl ?_
  intro p e s m args below meth c s₁ B hml hv
  obtain ⟨rfl, hP, hK, hZ⟩ := hv
  have hx := B.exec
  have hb := B.bytes
  have hr := B.returns
  have hts0 := atoms_spec (ws := (Cond.code y_Ord_casterOf c_Ord_casterOf 2 (some .int) :: base)) B.pre
  have hts : ∀ w ∈ base, w.before _ s = true := fun w h => hts0 w (List.mem_cons_of_mem _ h)
  have hown : s.vm.findClass R_Ord = some m.cls := findClass_of_methodNamed B.named
  have hlocks := B.notSynchronized
  have hP : va_P D cls [] s.heap := hP
  have hl := lv_entry ([.int v, .int k]) (n := 2) (Nat.le_of_ble_eq_true rfl)
  rw [lg_entry_eq]
  generalize (lg_sl ([.int v, .int k]) ++ List.replicate (2 - (lg_sl ([.int v, .int k])).length) Slot.unset).toArray = ls at hl ⊢
  have hl : lv_has ls 2 [(0, .int v), (1, .int k)] := hl
  refine lv_iload_n hx hb d_Ord_casterOf_0 rfl (lv_at hl 0 rfl) ?_
  refine lv_iconst (v := 4) hx hb d_Ord_casterOf_1 (by decide) ?_
  refine lv_iload_n hx hb d_Ord_casterOf_2 rfl (lv_at hl 1 rfl) ?_
  refine lv_imul hx hb d_Ord_casterOf_3 ?_
  refine lv_topi (fun f_1 ef_1 => ?_)
  refine lv_iconst (v := 3) hx hb d_Ord_casterOf_4 (by decide) ?_
  refine lv_iadd hx hb d_Ord_casterOf_5 ?_
  refine lv_topi (fun f_2 ef_2 => ?_)
  refine lv_ishr hx hb d_Ord_casterOf_6 ?_
  refine lv_topi (fun f_3 ef_3 => ?_)
  refine lv_iconst (v := 1) hx hb d_Ord_casterOf_7 (by decide) ?_
  refine lv_iand hx hb d_Ord_casterOf_8 ?_
  refine lv_topi (fun f_4 ef_4 => ?_)
  have e9 : r_Ord_casterOf v k = f_4 := by
    subst ef_1 ef_2 ef_3 ef_4; rfl
  exact W.iret (v := f_4) hx hb hr (fun t ht _ => ⟨_, rfl, e9.symm, ht⟩) (fun _ h => by cases h) d_Ord_casterOf_9
def r_Ord_withStep (v k h q : Int32) : Int32 := let f_1 : Int32 := q <<< (3 &&& 31); let f_2 : Int32 := h ||| f_1; let f_3 : Int32 := 4 * k; let f_4 : Int32 := f_2 <<< (f_3 &&& 31); let f_5 : Int32 := v ||| f_4; f_5
set_option maxHeartbeats 4000000 in
set_option maxRecDepth 100000 in
theorem k_Ord_withStep (l : Launch) (D : va_G) (cA cZ cL : ClassId) (v k h q : Int32)  : MetR l y_Ord_withStep (Cond.code y_Ord_withStep c_Ord_withStep 4 (some .int) :: base) ({ frames := 0, cells := 0, slots := 0, locals := 0 } : Room) D cls (tys3 cA cZ cL) ([.int v, .int k, .int h, .int q]) ([]) (r_Ord_withStep v k h q) := by
  refine Met.ofW (cc := c_Ord_withStep) (maxL := 4) (ret := (some .int)) (by decide) rfl ?_
  intro p e s m args below meth c s₁ B hml hv
  obtain ⟨rfl, hP, hK, hZ⟩ := hv
  have hx := B.exec
  have hb := B.bytes
  have hr := B.returns
  have hts0 := atoms_spec (ws := (Cond.code y_Ord_withStep c_Ord_withStep 4 (some .int) :: base)) B.pre
  have hts : ∀ w ∈ base, w.before _ s = true := fun w h => hts0 w (List.mem_cons_of_mem _ h)
  have hown : s.vm.findClass R_Ord = some m.cls := findClass_of_methodNamed B.named
  have hlocks := B.notSynchronized
  have hP : va_P D cls [] s.heap := hP
  have hl := lv_entry ([.int v, .int k, .int h, .int q]) (n := 4) (Nat.le_of_ble_eq_true rfl)
  rw [lg_entry_eq]
  generalize (lg_sl ([.int v, .int k, .int h, .int q]) ++ List.replicate (4 - (lg_sl ([.int v, .int k, .int h, .int q])).length) Slot.unset).toArray = ls at hl ⊢
  have hl : lv_has ls 4 [(0, .int v), (1, .int k), (2, .int h), (3, .int q)] := hl
  refine lv_iload_n hx hb d_Ord_withStep_0 rfl (lv_at hl 0 rfl) ?_
  refine lv_iload_n hx hb d_Ord_withStep_1 rfl (lv_at hl 2 rfl) ?_
  refine lv_iload_n hx hb d_Ord_withStep_2 rfl (lv_at hl 3 rfl) ?_
  refine lv_iconst (v := 3) hx hb d_Ord_withStep_3 (by decide) ?_
  refine lv_ishl hx hb d_Ord_withStep_4 ?_
  refine lv_topi (fun f_1 ef_1 => ?_)
  refine lv_ior hx hb d_Ord_withStep_5 ?_
  refine lv_topi (fun f_2 ef_2 => ?_)
  refine lv_iconst (v := 4) hx hb d_Ord_withStep_6 (by decide) ?_
  refine lv_iload_n hx hb d_Ord_withStep_7 rfl (lv_at hl 1 rfl) ?_
  refine lv_imul hx hb d_Ord_withStep_8 ?_
  refine lv_topi (fun f_3 ef_3 => ?_)
  refine lv_ishl hx hb d_Ord_withStep_9 ?_
  refine lv_topi (fun f_4 ef_4 => ?_)
  refine lv_ior hx hb d_Ord_withStep_10 ?_
  refine lv_topi (fun f_5 ef_5 => ?_)
  have e9 : r_Ord_withStep v k h q = f_5 := by
    subst ef_1 ef_2 ef_3 ef_4 ef_5; rfl
  exact W.iret (v := f_5) hx hb hr (fun t ht _ => ⟨_, rfl, e9.symm, ht⟩) (fun _ h => by cases h) d_Ord_withStep_11
