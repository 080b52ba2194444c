/-! the model: what reads and what takes a word -/
/-- the model's cells -/
abbrev wMod (cA cZ : ClassId) (a : Nat) (d : Nat → Nat) (M : Nat → Nat → Int32) : va_W := [(a, .inr (4, [.int (M 0 0), .int (M 0 1), .ref (d 1), .ref (d 2), .ref (d 3), .ref (d 4), .ref (d 5), .ref (d 6), .int (M 0 2), .int (M 0 3), .int (M 0 4), .int (M 0 5), .int (M 0 6), .int (M 0 7), .int (M 0 8), .ref (d 7), .int (M 0 9), .int (M 0 10), .int (M 0 11), .int (M 0 12), .ref (d 8), .ref (d 9), .ref (d 10), .ref (d 11), .ref (d 12), .ref (d 13), .int (M 0 13), .int (M 0 14), .int (M 0 15)])), (d 1, .inl (cA, 6, .inl (M 1))), (d 2, .inl (cA, 6, .inl (M 2))), (d 3, .inl (cA, 6, .inl (M 3))), (d 4, .inl (cA, 6, .inl (M 4))), (d 5, .inl (cA, 6, .inl (M 5))), (d 6, .inl (cA, 6, .inl (M 6))), (d 7, .inl (cA, 36, .inl (M 7))), (d 8, .inl (cA, 6, .inl (M 8))), (d 9, .inl (cA, 7, .inl (M 9))), (d 10, .inl (cA, 6, .inl (M 10))), (d 11, .inl (cA, 6, .inl (M 11))), (d 12, .inl (cA, 6, .inl (M 12))), (d 13, .inl (cZ, 6, .inl (M 13)))]
theorem jn {p : Program} {l : Launch} {e : Env} {R : Room} {s : State} {m : MethodId} {args : Array Value} {below : List Frame} {meth : Method} {c : Code} {H : Heap} {locs : List Loc} {cells slots : Nat} {Q : State → Prop} {g : JFrame} (pc : Nat) (rest : List Value) (nL : Nat) (lv : List (Nat × Value)) (v0 : Int32)
    (hJ : ∀ (v : Int32) (ls : Array Slot), v = v0 → lv_has ls nL lv → W p l e R s m args below meth c H locs cells slots Q (F0 m pc ls (.int v :: rest)))
    (hR : (∀ (v : Int32) (ls : Array Slot), v = v0 → lv_has ls nL lv → W p l e R s m args below meth c H locs cells slots Q (F0 m pc ls (.int v :: rest))) → W p l e R s m args below meth c H locs cells slots Q g) : W p l e R s m args below meth c H locs cells slots Q g := hR hJ
def r_Mod_in (v a b : Int32) : Int32 := if v < a then (0) else (if b < v then (0) else (1))
set_option maxHeartbeats 4000000 in
set_option maxRecDepth 100000 in
theorem k_Mod_in (l : Launch) (D : va_G) (cA cZ cL : ClassId) (v a b : Int32)  : MetR l y_Mod_in (Cond.code y_Mod_in c_Mod_in 3 (some .boolean) :: base) ({ frames := 0, cells := 0, slots := 0, locals := 0 } : Room) D cls (tys3 cA cZ cL) ([.int v, .int a, .int b]) ([]) (r_Mod_in v a b) := by
  refine Met.ofW (cc := c_Mod_in) (maxL := 3) (ret := (some .boolean)) (by decide) rfl ?_
  intro p e s m args below meth c s₁ B hml hv
  obtain ⟨rfl, hP, hK, hZ⟩ := hv
  have hx := B.exec
  have hb := B.bytes
  have hr := B.returns
  have hts0 := atoms_spec (ws := (Cond.code y_Mod_in c_Mod_in 3 (some .boolean) :: base)) B.pre
  have hts : ∀ w ∈ base, w.before _ s = true := fun w h => hts0 w (List.mem_cons_of_mem _ h)
  have hown : s.vm.findClass R_Mod = some m.cls := findClass_of_methodNamed B.named
  have hlocks := B.notSynchronized
  have hP : va_P D cls [] s.heap := hP
  have hl := lv_entry ([.int v, .int a, .int b]) (n := 3) (Nat.le_of_ble_eq_true rfl)
  rw [lg_entry_eq]
  generalize (lg_sl ([.int v, .int a, .int b]) ++ List.replicate (3 - (lg_sl ([.int v, .int a, .int b])).length) Slot.unset).toArray = ls at hl ⊢
  have hl : lv_has ls 3 [(0, .int v), (1, .int a), (2, .int b)] := hl
  refine lv_iload_n hx hb d_Mod_in_0 rfl (lv_at hl 0 rfl) ?_
  refine lv_iload_n hx hb d_Mod_in_1 rfl (lv_at hl 1 rfl) ?_
  refine lv_icmp_lt (tgt := 14) hx hb d_Mod_in_2 (by decide) (fun c_1 => ?_) (fun c_1 => ?_)
  · skip
    refine lv_iconst (v := 0) hx hb d_Mod_in_14 (by decide) ?_
    have e9 : r_Mod_in v a b = 0 := by
      unfold r_Mod_in; simp only [if_pos c_1]
    exact W.zret (v := 0) hx hb hr rfl (fun t ht _ => ⟨_, rfl, e9.symm, ht⟩) (fun _ h => by cases h) d_Mod_in_15
  · skip
    refine lv_iload_n hx hb d_Mod_in_5 rfl (lv_at hl 0 rfl) ?_
    refine lv_iload_n hx hb d_Mod_in_6 rfl (lv_at hl 2 rfl) ?_
    refine lv_icmp_gt (tgt := 14) hx hb d_Mod_in_7 (by decide) (fun c_2 => ?_) (fun c_2 => ?_)
    · skip
      refine lv_iconst (v := 0) hx hb d_Mod_in_14 (by decide) ?_
      have e9 : r_Mod_in v a b = 0 := by
        unfold r_Mod_in; simp only [if_neg c_1, if_pos c_2]
      exact W.zret (v := 0) hx hb hr rfl (fun t ht _ => ⟨_, rfl, e9.symm, ht⟩) (fun _ h => by cases h) d_Mod_in_15
    · skip
      refine lv_iconst (v := 1) hx hb d_Mod_in_10 (by decide) ?_
      refine lv_goto (tgt := 15) hx hb d_Mod_in_11 (by decide) ?_
      have e9 : r_Mod_in v a b = 1 := by
        unfold r_Mod_in; simp only [if_neg c_1, if_neg c_2]
      exact W.zret (v := 1) hx hb hr rfl (fun t ht _ => ⟨_, rfl, e9.symm, ht⟩) (fun _ h => by cases h) d_Mod_in_15
def r_Mod_thrown (M : Nat → Nat → Int32) : Int32 := M 0 0
set_option maxHeartbeats 4000000 in
set_option maxRecDepth 100000 in
theorem k_Mod_thrown (l : Launch) (D : va_G) (cA cZ cL : ClassId) (a : Nat) (d : Nat → Nat) (M : Nat → Nat → Int32)  : MetR l y_Mod_thrown (Cond.code y_Mod_thrown c_Mod_thrown 1 (some .int) :: base) ({ frames := 0, cells := 0, slots := 0, locals := 0 } : Room) D cls (tys3 cA cZ cL) ([.ref a]) (wMod cA cZ a d M) (r_Mod_thrown M) := by
  refine Met.ofW (cc := c_Mod_thrown) (maxL := 1) (ret := (some .int)) (by decide) rfl ?_
  intro p e s m args below meth c s₁ B hml hv
  obtain ⟨rfl, hP, hK, hZ⟩ := hv
  have hx := B.exec
  have hb := B.bytes
  have hr := B.returns
  have hts0 := atoms_spec (ws := (Cond.code y_Mod_thrown c_Mod_thrown 1 (some .int) :: base)) B.pre
  have hts : ∀ w ∈ base, w.before _ s = true := fun w h => hts0 w (List.mem_cons_of_mem _ h)
  have hown : s.vm.findClass R_Mod = some m.cls := findClass_of_methodNamed B.named
  have hlocks := B.notSynchronized
  have hP : va_P D cls [(a, .inr (4, [.int (M 0 0), .int (M 0 1), .ref (d 1), .ref (d 2), .ref (d 3), .ref (d 4), .ref (d 5), .ref (d 6), .int (M 0 2), .int (M 0 3), .int (M 0 4), .int (M 0 5), .int (M 0 6), .int (M 0 7), .int (M 0 8), .ref (d 7), .int (M 0 9), .int (M 0 10), .int (M 0 11), .int (M 0 12), .ref (d 8), .ref (d 9), .ref (d 10), .ref (d 11), .ref (d 12), .ref (d 13), .int (M 0 13), .int (M 0 14), .int (M 0 15)])), (d 1, .inl (cA, 6, .inl (M 1))), (d 2, .inl (cA, 6, .inl (M 2))), (d 3, .inl (cA, 6, .inl (M 3))), (d 4, .inl (cA, 6, .inl (M 4))), (d 5, .inl (cA, 6, .inl (M 5))), (d 6, .inl (cA, 6, .inl (M 6))), (d 7, .inl (cA, 36, .inl (M 7))), (d 8, .inl (cA, 6, .inl (M 8))), (d 9, .inl (cA, 7, .inl (M 9))), (d 10, .inl (cA, 6, .inl (M 10))), (d 11, .inl (cA, 6, .inl (M 11))), (d 12, .inl (cA, 6, .inl (M 12))), (d 13, .inl (cZ, 6, .inl (M 13)))] s.heap := hP
  have hl := lv_entry ([.ref a]) (n := 1) (Nat.le_of_ble_eq_true rfl)
  rw [lg_entry_eq]
  generalize (lg_sl ([.ref a]) ++ List.replicate (1 - (lg_sl ([.ref a])).length) Slot.unset).toArray = ls at hl ⊢
  have hl : lv_has ls 1 [(0, .ref a)] := hl
  refine lv_aload_n hx hb d_Mod_thrown_0 rfl (lv_at hl 0 rfl) ?_
  refine va_get (D := D) (ci := 4) (v := .int (M 0 0)) (C := R_Mod) (T := T_Mod) (N := 29) hx hb hts i_Mod hown hK hP 0 rfl rfl 0 (by decide) (hts _ mb_523) (fun _ h9 => h9) rfl d_Mod_thrown_1 ?_
  have e9 : r_Mod_thrown M = M 0 0 := by
    rfl
  exact W.iret (v := (M 0 0)) hx hb hr (fun t ht _ => ⟨_, rfl, e9.symm, ht⟩) (fun _ h => by cases h) d_Mod_thrown_4
def r_Mod_throwing (M : Nat → Nat → Int32) (h k q : Int32) : Int32 × (Nat → Nat → Int32) := let f_4 : Int32 := (if h = 0 then (if k = 0 then (if q = 0 then (0) else (3)) else (2)) else (1)); if f_4 ≤ 0 then ((0, (tb [(tv [f_4, M 0 1, M 0 2, M 0 3, M 0 4, M 0 5, M 0 6, M 0 7, M 0 8, M 0 9, M 0 10, M 0 11, M 0 12, M 0 13, M 0 14, M 0 15]), M 1, M 2, M 3, M 4, M 5, M 6, M 7, M 8, M 9, M 10, M 11, M 12, M 13]))) else ((1, (tb [(tv [f_4, M 0 1, M 0 2, M 0 3, M 0 4, M 0 5, M 0 6, M 0 7, M 0 8, M 0 9, M 0 10, M 0 11, M 0 12, M 0 13, M 0 14, M 0 15]), M 1, M 2, M 3, M 4, M 5, M 6, M 7, M 8, M 9, M 10, M 11, M 12, M 13])))
set_option maxHeartbeats 4000000 in
set_option maxRecDepth 100000 in
theorem k_Mod_throwing (l : Launch) (D : va_G) (cA cZ cL : ClassId) (a : Nat) (d : Nat → Nat) (M : Nat → Nat → Int32) (h k q : Int32)  : MetI l y_Mod_throwing (Cond.code y_Mod_throwing c_Mod_throwing 4 (some .boolean) :: base) ({ frames := 0, cells := 0, slots := 0, locals := 0 } : Room) D cls (tys3 cA cZ cL) ([.ref a, .int h, .int k, .int q]) (wMod cA cZ a d M) (r_Mod_throwing M h k q).1 (wMod cA cZ a d ((r_Mod_throwing M h k q).2)) := by
  intro sz
  refine Met.ofW (cc := c_Mod_throwing) (maxL := 4) (ret := (some .boolean)) (by decide) rfl ?_
  intro p e s m args below meth c s₁ B hml hv
  obtain ⟨rfl, hsz, hP, hK, hZ, hD0⟩ := hv
  have hx := B.exec
  have hb := B.bytes
  have hr := B.returns
  have hts0 := atoms_spec (ws := (Cond.code y_Mod_throwing c_Mod_throwing 4 (some .boolean) :: base)) B.pre
  have hts : ∀ w ∈ base, w.before _ s = true := fun w h => hts0 w (List.mem_cons_of_mem _ h)
  have hown : s.vm.findClass R_Mod = some m.cls := findClass_of_methodNamed B.named
  have hlocks := B.notSynchronized
  have hP : va_P D cls [(a, .inr (4, [.int (M 0 0), .int (M 0 1), .ref (d 1), .ref (d 2), .ref (d 3), .ref (d 4), .ref (d 5), .ref (d 6), .int (M 0 2), .int (M 0 3), .int (M 0 4), .int (M 0 5), .int (M 0 6), .int (M 0 7), .int (M 0 8), .ref (d 7), .int (M 0 9), .int (M 0 10), .int (M 0 11), .int (M 0 12), .ref (d 8), .ref (d 9), .ref (d 10), .ref (d 11), .ref (d 12), .ref (d 13), .int (M 0 13), .int (M 0 14), .int (M 0 15)])), (d 1, .inl (cA, 6, .inl (M 1))), (d 2, .inl (cA, 6, .inl (M 2))), (d 3, .inl (cA, 6, .inl (M 3))), (d 4, .inl (cA, 6, .inl (M 4))), (d 5, .inl (cA, 6, .inl (M 5))), (d 6, .inl (cA, 6, .inl (M 6))), (d 7, .inl (cA, 36, .inl (M 7))), (d 8, .inl (cA, 6, .inl (M 8))), (d 9, .inl (cA, 7, .inl (M 9))), (d 10, .inl (cA, 6, .inl (M 10))), (d 11, .inl (cA, 6, .inl (M 11))), (d 12, .inl (cA, 6, .inl (M 12))), (d 13, .inl (cZ, 6, .inl (M 13)))] s.heap := hP
  subst hsz
  have hD := hD0.self (sz := s.heap.size)
  generalize hAe : va_A (wMod cA cZ a d M) s.heap.size = A at hD ⊢
  have hA : ∀ q : Nat, s.heap.size ≤ q → A q := fun q h => by rw [← hAe]; exact Or.inr h
  have hS : va_S A s.heap s.heap [] := va_S.rf
  have hD : va_D A [(a, .inr (4, [.int (M 0 0), .int (M 0 1), .ref (d 1), .ref (d 2), .ref (d 3), .ref (d 4), .ref (d 5), .ref (d 6), .int (M 0 2), .int (M 0 3), .int (M 0 4), .int (M 0 5), .int (M 0 6), .int (M 0 7), .int (M 0 8), .ref (d 7), .int (M 0 9), .int (M 0 10), .int (M 0 11), .int (M 0 12), .ref (d 8), .ref (d 9), .ref (d 10), .ref (d 11), .ref (d 12), .ref (d 13), .int (M 0 13), .int (M 0 14), .int (M 0 15)])), (d 1, .inl (cA, 6, .inl (M 1))), (d 2, .inl (cA, 6, .inl (M 2))), (d 3, .inl (cA, 6, .inl (M 3))), (d 4, .inl (cA, 6, .inl (M 4))), (d 5, .inl (cA, 6, .inl (M 5))), (d 6, .inl (cA, 6, .inl (M 6))), (d 7, .inl (cA, 36, .inl (M 7))), (d 8, .inl (cA, 6, .inl (M 8))), (d 9, .inl (cA, 7, .inl (M 9))), (d 10, .inl (cA, 6, .inl (M 10))), (d 11, .inl (cA, 6, .inl (M 11))), (d 12, .inl (cA, 6, .inl (M 12))), (d 13, .inl (cZ, 6, .inl (M 13)))] := hD
  have hl := lv_entry ([.ref a, .int h, .int k, .int q]) (n := 4) (Nat.le_of_ble_eq_true rfl)
  rw [lg_entry_eq]
  generalize (lg_sl ([.ref a, .int h, .int k, .int q]) ++ List.replicate (4 - (lg_sl ([.ref a, .int h, .int k, .int q])).length) Slot.unset).toArray = ls at hl ⊢
  have hl : lv_has ls 4 [(0, .ref a), (1, .int h), (2, .int k), (3, .int q)] := hl
  refine lv_aload_n hx hb d_Mod_throwing_0 rfl (lv_at hl 0 rfl) ?_
  refine jn 26 [.ref a] 4 [(0, .ref a), (1, .int h), (2, .int k), (3, .int q)] (if h = 0 then (if k = 0 then (if q = 0 then (0) else (3)) else (2)) else (1)) (fun f_4 ls ef_4 hl => ?_) (fun J => ?_)
  · skip
    refine va_put (D := D) (ci := 4) (v := .int f_4) (ty := .int) (C := R_Mod) (T := T_Mod) (N := 29) hx hb hts i_Mod t_Mod t_Mod_ok n_Mod hown hK hP hD hS 0 rfl rfl 0 (by decide) (hts _ mb_523) (fun _ h9 => h9) rfl (by decide +kernel) rfl rfl (Nat.le_of_ble_eq_true rfl) d_Mod_throwing_26 (fun H locs hP hD hS => ?_)
    have hP : va_P D cls [(a, .inr (4, [.int f_4, .int (M 0 1), .ref (d 1), .ref (d 2), .ref (d 3), .ref (d 4), .ref (d 5), .ref (d 6), .int (M 0 2), .int (M 0 3), .int (M 0 4), .int (M 0 5), .int (M 0 6), .int (M 0 7), .int (M 0 8), .ref (d 7), .int (M 0 9), .int (M 0 10), .int (M 0 11), .int (M 0 12), .ref (d 8), .ref (d 9), .ref (d 10), .ref (d 11), .ref (d 12), .ref (d 13), .int (M 0 13), .int (M 0 14), .int (M 0 15)])), (d 1, .inl (cA, 6, .inl (M 1))), (d 2, .inl (cA, 6, .inl (M 2))), (d 3, .inl (cA, 6, .inl (M 3))), (d 4, .inl (cA, 6, .inl (M 4))), (d 5, .inl (cA, 6, .inl (M 5))), (d 6, .inl (cA, 6, .inl (M 6))), (d 7, .inl (cA, 36, .inl (M 7))), (d 8, .inl (cA, 6, .inl (M 8))), (d 9, .inl (cA, 7, .inl (M 9))), (d 10, .inl (cA, 6, .inl (M 10))), (d 11, .inl (cA, 6, .inl (M 11))), (d 12, .inl (cA, 6, .inl (M 12))), (d 13, .inl (cZ, 6, .inl (M 13)))] H := hP
    have hD : va_D A [(a, .inr (4, [.int f_4, .int (M 0 1), .ref (d 1), .ref (d 2), .ref (d 3), .ref (d 4), .ref (d 5), .ref (d 6), .int (M 0 2), .int (M 0 3), .int (M 0 4), .int (M 0 5), .int (M 0 6), .int (M 0 7), .int (M 0 8), .ref (d 7), .int (M 0 9), .int (M 0 10), .int (M 0 11), .int (M 0 12), .ref (d 8), .ref (d 9), .ref (d 10), .ref (d 11), .ref (d 12), .ref (d 13), .int (M 0 13), .int (M 0 14), .int (M 0 15)])), (d 1, .inl (cA, 6, .inl (M 1))), (d 2, .inl (cA, 6, .inl (M 2))), (d 3, .inl (cA, 6, .inl (M 3))), (d 4, .inl (cA, 6, .inl (M 4))), (d 5, .inl (cA, 6, .inl (M 5))), (d 6, .inl (cA, 6, .inl (M 6))), (d 7, .inl (cA, 36, .inl (M 7))), (d 8, .inl (cA, 6, .inl (M 8))), (d 9, .inl (cA, 7, .inl (M 9))), (d 10, .inl (cA, 6, .inl (M 10))), (d 11, .inl (cA, 6, .inl (M 11))), (d 12, .inl (cA, 6, .inl (M 12))), (d 13, .inl (cZ, 6, .inl (M 13)))] := hD
    refine lv_aload_n hx hb d_Mod_throwing_29 rfl (lv_at hl 0 rfl) ?_
    refine va_get (D := D) (ci := 4) (v := .int f_4) (C := R_Mod) (T := T_Mod) (N := 29) hx hb hts i_Mod hown hK hP 0 rfl rfl 0 (by decide) (hts _ mb_523) (fun _ h9 => h9) rfl d_Mod_throwing_30 ?_
    refine lv_if_le (tgt := 40) hx hb d_Mod_throwing_33 (by decide) (fun c_5 => ?_) (fun c_5 => ?_)
    · skip
      refine lv_iconst (v := 0) hx hb d_Mod_throwing_40 (by decide) ?_
      have e9 : r_Mod_throwing M h k q = (0, (tb [(tv [f_4, M 0 1, M 0 2, M 0 3, M 0 4, M 0 5, M 0 6, M 0 7, M 0 8, M 0 9, M 0 10, M 0 11, M 0 12, M 0 13, M 0 14, M 0 15]), M 1, M 2, M 3, M 4, M 5, M 6, M 7, M 8, M 9, M 10, M 11, M 12, M 13])) := by
        subst ef_4; unfold r_Mod_throwing; simp only [if_pos c_5]
      exact W.zret (v := 0) hx hb hr rfl (fun t ht hW => ⟨⟨_, (), rfl, (by rw [e9]), (by rw [e9, ht]; exact hP.sub [0, 1, 2, 3, 4, 5, 6, 7, 8, 9, 10, 11, 12, 13] rfl), (by rw [e9]; exact hD.sub [0, 1, 2, 3, 4, 5, 6, 7, 8, 9, 10, 11, 12, 13] (by decide) rfl)⟩, hS.F ht⟩) hS.2.2 d_Mod_throwing_41
    · skip
      refine lv_iconst (v := 1) hx hb d_Mod_throwing_36 (by decide) ?_
      refine lv_goto (tgt := 41) hx hb d_Mod_throwing_37 (by decide) ?_
      have e9 : r_Mod_throwing M h k q = (1, (tb [(tv [f_4, M 0 1, M 0 2, M 0 3, M 0 4, M 0 5, M 0 6, M 0 7, M 0 8, M 0 9, M 0 10, M 0 11, M 0 12, M 0 13, M 0 14, M 0 15]), M 1, M 2, M 3, M 4, M 5, M 6, M 7, M 8, M 9, M 10, M 11, M 12, M 13])) := by
        subst ef_4; unfold r_Mod_throwing; simp only [if_neg c_5]
      exact W.zret (v := 1) hx hb hr rfl (fun t ht hW => ⟨⟨_, (), rfl, (by rw [e9]), (by rw [e9, ht]; exact hP.sub [0, 1, 2, 3, 4, 5, 6, 7, 8, 9, 10, 11, 12, 13] rfl), (by rw [e9]; exact hD.sub [0, 1, 2, 3, 4, 5, 6, 7, 8, 9, 10, 11, 12, 13] (by decide) rfl)⟩, hS.F ht⟩) hS.2.2 d_Mod_throwing_41
  · skip
    refine lv_iload_n hx hb d_Mod_throwing_1 rfl (lv_at hl 1 rfl) ?_
    refine lv_if_eq (tgt := 9) hx hb d_Mod_throwing_2 (by decide) (fun c_1 => ?_) (fun c_1 => ?_)
    · skip
      refine lv_iload_n hx hb d_Mod_throwing_9 rfl (lv_at hl 2 rfl) ?_
      refine lv_if_eq (tgt := 17) hx hb d_Mod_throwing_10 (by decide) (fun c_2 => ?_) (fun c_2 => ?_)
      · skip
        refine lv_iload_n hx hb d_Mod_throwing_17 rfl (lv_at hl 3 rfl) ?_
        refine lv_if_eq (tgt := 25) hx hb d_Mod_throwing_18 (by decide) (fun c_3 => ?_) (fun c_3 => ?_)
        · skip
          refine lv_iconst (v := 0) hx hb d_Mod_throwing_25 (by decide) ?_
          exact J _ _ (by simp only [if_pos c_1, if_pos c_2, if_pos c_3]) (lv_sub hl [0, 1, 2, 3] rfl)
        · skip
          refine lv_iconst (v := 3) hx hb d_Mod_throwing_21 (by decide) ?_
          refine lv_goto (tgt := 26) hx hb d_Mod_throwing_22 (by decide) ?_
          exact J _ _ (by simp only [if_pos c_1, if_pos c_2, if_neg c_3]) (lv_sub hl [0, 1, 2, 3] rfl)
      · skip
        refine lv_iconst (v := 2) hx hb d_Mod_throwing_13 (by decide) ?_
        refine lv_goto (tgt := 26) hx hb d_Mod_throwing_14 (by decide) ?_
        exact J _ _ (by simp only [if_pos c_1, if_neg c_2]) (lv_sub hl [0, 1, 2, 3] rfl)
    · skip
      refine lv_iconst (v := 1) hx hb d_Mod_throwing_5 (by decide) ?_
      refine lv_goto (tgt := 26) hx hb d_Mod_throwing_6 (by decide) ?_
      exact J _ _ (by simp only [if_neg c_1]) (lv_sub hl [0, 1, 2, 3] rfl)
def r_Mod_forget (M : Nat → Nat → Int32) : Nat → Nat → Int32 := (tb [(tv [M 0 0, M 0 1, M 0 2, M 0 3, M 0 4, M 0 5, M 0 6, M 0 7, M 0 8, 0, M 0 10, M 0 11, 0, M 0 13, M 0 14, M 0 15]), M 1, M 2, M 3, M 4, M 5, M 6, M 7, M 8, M 9, M 10, M 11, M 12, M 13])
set_option maxHeartbeats 4000000 in
set_option maxRecDepth 100000 in
theorem k_Mod_forget (l : Launch) (D : va_G) (cA cZ cL : ClassId) (a : Nat) (d : Nat → Nat) (M : Nat → Nat → Int32)  : MetV l y_Mod_forget (Cond.code y_Mod_forget c_Mod_forget 1 none :: base) ({ frames := 0, cells := 0, slots := 0, locals := 0 } : Room) D cls (tys3 cA cZ cL) ([.ref a]) (wMod cA cZ a d M) (wMod cA cZ a d (r_Mod_forget M)) := by
  intro sz
  refine Met.ofW (cc := c_Mod_forget) (maxL := 1) (ret := none) (by decide) rfl ?_
  intro p e s m args below meth c s₁ B hml hv
  obtain ⟨rfl, hsz, hP, hK, hZ, hD0⟩ := hv
  have hx := B.exec
  have hb := B.bytes
  have hr := B.returns
  have hts0 := atoms_spec (ws := (Cond.code y_Mod_forget c_Mod_forget 1 none :: base)) B.pre
  have hts : ∀ w ∈ base, w.before _ s = true := fun w h => hts0 w (List.mem_cons_of_mem _ h)
  have hown : s.vm.findClass R_Mod = some m.cls := findClass_of_methodNamed B.named
  have hlocks := B.notSynchronized
  have hP : va_P D cls [(a, .inr (4, [.int (M 0 0), .int (M 0 1), .ref (d 1), .ref (d 2), .ref (d 3), .ref (d 4), .ref (d 5), .ref (d 6), .int (M 0 2), .int (M 0 3), .int (M 0 4), .int (M 0 5), .int (M 0 6), .int (M 0 7), .int (M 0 8), .ref (d 7), .int (M 0 9), .int (M 0 10), .int (M 0 11), .int (M 0 12), .ref (d 8), .ref (d 9), .ref (d 10), .ref (d 11), .ref (d 12), .ref (d 13), .int (M 0 13), .int (M 0 14), .int (M 0 15)])), (d 1, .inl (cA, 6, .inl (M 1))), (d 2, .inl (cA, 6, .inl (M 2))), (d 3, .inl (cA, 6, .inl (M 3))), (d 4, .inl (cA, 6, .inl (M 4))), (d 5, .inl (cA, 6, .inl (M 5))), (d 6, .inl (cA, 6, .inl (M 6))), (d 7, .inl (cA, 36, .inl (M 7))), (d 8, .inl (cA, 6, .inl (M 8))), (d 9, .inl (cA, 7, .inl (M 9))), (d 10, .inl (cA, 6, .inl (M 10))), (d 11, .inl (cA, 6, .inl (M 11))), (d 12, .inl (cA, 6, .inl (M 12))), (d 13, .inl (cZ, 6, .inl (M 13)))] s.heap := hP
  subst hsz
  have hD := hD0.self (sz := s.heap.size)
  generalize hAe : va_A (wMod cA cZ a d M) s.heap.size = A at hD ⊢
  have hA : ∀ q : Nat, s.heap.size ≤ q → A q := fun q h => by rw [← hAe]; exact Or.inr h
  have hS : va_S A s.heap s.heap [] := va_S.rf
  have hD : va_D A [(a, .inr (4, [.int (M 0 0), .int (M 0 1), .ref (d 1), .ref (d 2), .ref (d 3), .ref (d 4), .ref (d 5), .ref (d 6), .int (M 0 2), .int (M 0 3), .int (M 0 4), .int (M 0 5), .int (M 0 6), .int (M 0 7), .int (M 0 8), .ref (d 7), .int (M 0 9), .int (M 0 10), .int (M 0 11), .int (M 0 12), .ref (d 8), .ref (d 9), .ref (d 10), .ref (d 11), .ref (d 12), .ref (d 13), .int (M 0 13), .int (M 0 14), .int (M 0 15)])), (d 1, .inl (cA, 6, .inl (M 1))), (d 2, .inl (cA, 6, .inl (M 2))), (d 3, .inl (cA, 6, .inl (M 3))), (d 4, .inl (cA, 6, .inl (M 4))), (d 5, .inl (cA, 6, .inl (M 5))), (d 6, .inl (cA, 6, .inl (M 6))), (d 7, .inl (cA, 36, .inl (M 7))), (d 8, .inl (cA, 6, .inl (M 8))), (d 9, .inl (cA, 7, .inl (M 9))), (d 10, .inl (cA, 6, .inl (M 10))), (d 11, .inl (cA, 6, .inl (M 11))), (d 12, .inl (cA, 6, .inl (M 12))), (d 13, .inl (cZ, 6, .inl (M 13)))] := hD
  have hl := lv_entry ([.ref a]) (n := 1) (Nat.le_of_ble_eq_true rfl)
  rw [lg_entry_eq]
  generalize (lg_sl ([.ref a]) ++ List.replicate (1 - (lg_sl ([.ref a])).length) Slot.unset).toArray = ls at hl ⊢
  have hl : lv_has ls 1 [(0, .ref a)] := hl
  refine lv_aload_n hx hb d_Mod_forget_0 rfl (lv_at hl 0 rfl) ?_
  refine lv_iconst (v := 0) hx hb d_Mod_forget_1 (by decide) ?_
  refine va_put (D := D) (ci := 4) (v := .int 0) (ty := .boolean) (C := R_Mod) (T := T_Mod) (N := 29) hx hb hts i_Mod t_Mod t_Mod_ok n_Mod hown hK hP hD hS 0 rfl rfl 16 (by decide) (hts _ mb_539) (fun _ h9 => h9) rfl (by decide +kernel) rfl rfl (Nat.le_of_ble_eq_true rfl) d_Mod_forget_2 (fun H locs hP hD hS => ?_)
  have hP : va_P D cls [(a, .inr (4, [.int (M 0 0), .int (M 0 1), .ref (d 1), .ref (d 2), .ref (d 3), .ref (d 4), .ref (d 5), .ref (d 6), .int (M 0 2), .int (M 0 3), .int (M 0 4), .int (M 0 5), .int (M 0 6), .int (M 0 7), .int (M 0 8), .ref (d 7), .int 0, .int (M 0 10), .int (M 0 11), .int (M 0 12), .ref (d 8), .ref (d 9), .ref (d 10), .ref (d 11), .ref (d 12), .ref (d 13), .int (M 0 13), .int (M 0 14), .int (M 0 15)])), (d 1, .inl (cA, 6, .inl (M 1))), (d 2, .inl (cA, 6, .inl (M 2))), (d 3, .inl (cA, 6, .inl (M 3))), (d 4, .inl (cA, 6, .inl (M 4))), (d 5, .inl (cA, 6, .inl (M 5))), (d 6, .inl (cA, 6, .inl (M 6))), (d 7, .inl (cA, 36, .inl (M 7))), (d 8, .inl (cA, 6, .inl (M 8))), (d 9, .inl (cA, 7, .inl (M 9))), (d 10, .inl (cA, 6, .inl (M 10))), (d 11, .inl (cA, 6, .inl (M 11))), (d 12, .inl (cA, 6, .inl (M 12))), (d 13, .inl (cZ, 6, .inl (M 13)))] H := hP
  have hD : va_D A [(a, .inr (4, [.int (M 0 0), .int (M 0 1), .ref (d 1), .ref (d 2), .ref (d 3), .ref (d 4), .ref (d 5), .ref (d 6), .int (M 0 2), .int (M 0 3), .int (M 0 4), .int (M 0 5), .int (M 0 6), .int (M 0 7), .int (M 0 8), .ref (d 7), .int 0, .int (M 0 10), .int (M 0 11), .int (M 0 12), .ref (d 8), .ref (d 9), .ref (d 10), .ref (d 11), .ref (d 12), .ref (d 13), .int (M 0 13), .int (M 0 14), .int (M 0 15)])), (d 1, .inl (cA, 6, .inl (M 1))), (d 2, .inl (cA, 6, .inl (M 2))), (d 3, .inl (cA, 6, .inl (M 3))), (d 4, .inl (cA, 6, .inl (M 4))), (d 5, .inl (cA, 6, .inl (M 5))), (d 6, .inl (cA, 6, .inl (M 6))), (d 7, .inl (cA, 36, .inl (M 7))), (d 8, .inl (cA, 6, .inl (M 8))), (d 9, .inl (cA, 7, .inl (M 9))), (d 10, .inl (cA, 6, .inl (M 10))), (d 11, .inl (cA, 6, .inl (M 11))), (d 12, .inl (cA, 6, .inl (M 12))), (d 13, .inl (cZ, 6, .inl (M 13)))] := hD
  refine lv_aload_n hx hb d_Mod_forget_5 rfl (lv_at hl 0 rfl) ?_
  refine lv_iconst (v := 0) hx hb d_Mod_forget_6 (by decide) ?_
  refine va_put (D := D) (ci := 4) (v := .int 0) (ty := .boolean) (C := R_Mod) (T := T_Mod) (N := 29) hx hb hts i_Mod t_Mod t_Mod_ok n_Mod hown hK hP hD hS 0 rfl rfl 19 (by decide) (hts _ mb_542) (fun _ h9 => h9) rfl (by decide +kernel) rfl rfl (Nat.le_of_ble_eq_true rfl) d_Mod_forget_7 (fun H locs hP hD hS => ?_)
  have hP : va_P D cls [(a, .inr (4, [.int (M 0 0), .int (M 0 1), .ref (d 1), .ref (d 2), .ref (d 3), .ref (d 4), .ref (d 5), .ref (d 6), .int (M 0 2), .int (M 0 3), .int (M 0 4), .int (M 0 5), .int (M 0 6), .int (M 0 7), .int (M 0 8), .ref (d 7), .int 0, .int (M 0 10), .int (M 0 11), .int 0, .ref (d 8), .ref (d 9), .ref (d 10), .ref (d 11), .ref (d 12), .ref (d 13), .int (M 0 13), .int (M 0 14), .int (M 0 15)])), (d 1, .inl (cA, 6, .inl (M 1))), (d 2, .inl (cA, 6, .inl (M 2))), (d 3, .inl (cA, 6, .inl (M 3))), (d 4, .inl (cA, 6, .inl (M 4))), (d 5, .inl (cA, 6, .inl (M 5))), (d 6, .inl (cA, 6, .inl (M 6))), (d 7, .inl (cA, 36, .inl (M 7))), (d 8, .inl (cA, 6, .inl (M 8))), (d 9, .inl (cA, 7, .inl (M 9))), (d 10, .inl (cA, 6, .inl (M 10))), (d 11, .inl (cA, 6, .inl (M 11))), (d 12, .inl (cA, 6, .inl (M 12))), (d 13, .inl (cZ, 6, .inl (M 13)))] H := hP
  have hD : va_D A [(a, .inr (4, [.int (M 0 0), .int (M 0 1), .ref (d 1), .ref (d 2), .ref (d 3), .ref (d 4), .ref (d 5), .ref (d 6), .int (M 0 2), .int (M 0 3), .int (M 0 4), .int (M 0 5), .int (M 0 6), .int (M 0 7), .int (M 0 8), .ref (d 7), .int 0, .int (M 0 10), .int (M 0 11), .int 0, .ref (d 8), .ref (d 9), .ref (d 10), .ref (d 11), .ref (d 12), .ref (d 13), .int (M 0 13), .int (M 0 14), .int (M 0 15)])), (d 1, .inl (cA, 6, .inl (M 1))), (d 2, .inl (cA, 6, .inl (M 2))), (d 3, .inl (cA, 6, .inl (M 3))), (d 4, .inl (cA, 6, .inl (M 4))), (d 5, .inl (cA, 6, .inl (M 5))), (d 6, .inl (cA, 6, .inl (M 6))), (d 7, .inl (cA, 36, .inl (M 7))), (d 8, .inl (cA, 6, .inl (M 8))), (d 9, .inl (cA, 7, .inl (M 9))), (d 10, .inl (cA, 6, .inl (M 10))), (d 11, .inl (cA, 6, .inl (M 11))), (d 12, .inl (cA, 6, .inl (M 12))), (d 13, .inl (cZ, 6, .inl (M 13)))] := hD
  have e9 : r_Mod_forget M = (tb [(tv [M 0 0, M 0 1, M 0 2, M 0 3, M 0 4, M 0 5, M 0 6, M 0 7, M 0 8, 0, M 0 10, M 0 11, 0, M 0 13, M 0 14, M 0 15]), M 1, M 2, M 3, M 4, M 5, M 6, M 7, M 8, M 9, M 10, M 11, M 12, M 13]) := by
    rfl
  exact W.vret hx hb hr (fun t ht hW => ⟨⟨(), rfl, trivial, (by rw [e9, ht]; exact hP.sub [0, 1, 2, 3, 4, 5, 6, 7, 8, 9, 10, 11, 12, 13] rfl), (by rw [e9]; exact hD.sub [0, 1, 2, 3, 4, 5, 6, 7, 8, 9, 10, 11, 12, 13] (by decide) rfl)⟩, hS.F ht⟩) hS.2.2 d_Mod_forget_10
def r_Mod_costNow (M : Nat → Nat → Int32) : Int32 := let f_1 : Int32 := (M 0 14) * (M 0 7); let f_2 : Int32 := (M 0 13) + f_1; let f_3 : Int32 := (M 0 15) * (M 0 8); let f_4 : Int32 := f_2 + f_3; f_4
set_option maxHeartbeats 4000000 in
set_option maxRecDepth 100000 in
theorem k_Mod_costNow (l : Launch) (D : va_G) (cA cZ cL : ClassId) (a : Nat) (d : Nat → Nat) (M : Nat → Nat → Int32)  : MetR l y_Mod_costNow (Cond.code y_Mod_costNow c_Mod_costNow 1 (some .int) :: base) ({ frames := 0, cells := 0, slots := 0, locals := 0 } : Room) D cls (tys3 cA cZ cL) ([.ref a]) (wMod cA cZ a d M) (r_Mod_costNow M) := by
  refine Met.ofW (cc := c_Mod_costNow) (maxL := 1) (ret := (some .int)) (by decide) rfl ?_
  intro p e s m args below meth c s₁ B hml hv
  obtain ⟨rfl, hP, hK, hZ⟩ := hv
  have hx := B.exec
  have hb := B.bytes
  have hr := B.returns
  have hts0 := atoms_spec (ws := (Cond.code y_Mod_costNow c_Mod_costNow 1 (some .int) :: base)) B.pre
  have hts : ∀ w ∈ base, w.before _ s = true := fun w h => hts0 w (List.mem_cons_of_mem _ h)
  have hown : s.vm.findClass R_Mod = some m.cls := findClass_of_methodNamed B.named
  have hlocks := B.notSynchronized
  have hP : va_P D cls [(a, .inr (4, [.int (M 0 0), .int (M 0 1), .ref (d 1), .ref (d 2), .ref (d 3), .ref (d 4), .ref (d 5), .ref (d 6), .int (M 0 2), .int (M 0 3), .int (M 0 4), .int (M 0 5), .int (M 0 6), .int (M 0 7), .int (M 0 8), .ref (d 7), .int (M 0 9), .int (M 0 10), .int (M 0 11), .int (M 0 12), .ref (d 8), .ref (d 9), .ref (d 10), .ref (d 11), .ref (d 12), .ref (d 13), .int (M 0 13), .int (M 0 14), .int (M 0 15)])), (d 1, .inl (cA, 6, .inl (M 1))), (d 2, .inl (cA, 6, .inl (M 2))), (d 3, .inl (cA, 6, .inl (M 3))), (d 4, .inl (cA, 6, .inl (M 4))), (d 5, .inl (cA, 6, .inl (M 5))), (d 6, .inl (cA, 6, .inl (M 6))), (d 7, .inl (cA, 36, .inl (M 7))), (d 8, .inl (cA, 6, .inl (M 8))), (d 9, .inl (cA, 7, .inl (M 9))), (d 10, .inl (cA, 6, .inl (M 10))), (d 11, .inl (cA, 6, .inl (M 11))), (d 12, .inl (cA, 6, .inl (M 12))), (d 13, .inl (cZ, 6, .inl (M 13)))] s.heap := hP
  have hl := lv_entry ([.ref a]) (n := 1) (Nat.le_of_ble_eq_true rfl)
  rw [lg_entry_eq]
  generalize (lg_sl ([.ref a]) ++ List.replicate (1 - (lg_sl ([.ref a])).length) Slot.unset).toArray = ls at hl ⊢
  have hl : lv_has ls 1 [(0, .ref a)] := hl
  refine lv_aload_n hx hb d_Mod_costNow_0 rfl (lv_at hl 0 rfl) ?_
  refine va_get (D := D) (ci := 4) (v := .int (M 0 13)) (C := R_Mod) (T := T_Mod) (N := 29) hx hb hts i_Mod hown hK hP 0 rfl rfl 26 (by decide) (hts _ mb_549) (fun _ h9 => h9) rfl d_Mod_costNow_1 ?_
  refine lv_aload_n hx hb d_Mod_costNow_4 rfl (lv_at hl 0 rfl) ?_
  refine va_get (D := D) (ci := 4) (v := .int (M 0 14)) (C := R_Mod) (T := T_Mod) (N := 29) hx hb hts i_Mod hown hK hP 0 rfl rfl 27 (by decide) (hts _ mb_550) (fun _ h9 => h9) rfl d_Mod_costNow_5 ?_
  refine lv_aload_n hx hb d_Mod_costNow_8 rfl (lv_at hl 0 rfl) ?_
  refine va_get (D := D) (ci := 4) (v := .int (M 0 7)) (C := R_Mod) (T := T_Mod) (N := 29) hx hb hts i_Mod hown hK hP 0 rfl rfl 13 (by decide) (hts _ mb_536) (fun _ h9 => h9) rfl d_Mod_costNow_9 ?_
  refine lv_imul hx hb d_Mod_costNow_12 ?_
  refine lv_topi (fun f_1 ef_1 => ?_)
  refine lv_iadd hx hb d_Mod_costNow_13 ?_
  refine lv_topi (fun f_2 ef_2 => ?_)
  refine lv_aload_n hx hb d_Mod_costNow_14 rfl (lv_at hl 0 rfl) ?_
  refine va_get (D := D) (ci := 4) (v := .int (M 0 15)) (C := R_Mod) (T := T_Mod) (N := 29) hx hb hts i_Mod hown hK hP 0 rfl rfl 28 (by decide) (hts _ mb_551) (fun _ h9 => h9) rfl d_Mod_costNow_15 ?_
  refine lv_aload_n hx hb d_Mod_costNow_18 rfl (lv_at hl 0 rfl) ?_
  refine va_get (D := D) (ci := 4) (v := .int (M 0 8)) (C := R_Mod) (T := T_Mod) (N := 29) hx hb hts i_Mod hown hK hP 0 rfl rfl 14 (by decide) (hts _ mb_537) (fun _ h9 => h9) rfl d_Mod_costNow_19 ?_
  refine lv_imul hx hb d_Mod_costNow_22 ?_
  refine lv_topi (fun f_3 ef_3 => ?_)
  refine lv_iadd hx hb d_Mod_costNow_23 ?_
  refine lv_topi (fun f_4 ef_4 => ?_)
  have e9 : r_Mod_costNow M = f_4 := by
    subst ef_1 ef_2 ef_3 ef_4; rfl
  exact W.iret (v := f_4) hx hb hr (fun t ht _ => ⟨_, rfl, e9.symm, ht⟩) (fun _ h => by cases h) d_Mod_costNow_24
def r_Mod_far (M : Nat → Nat → Int32) (h q : Int32) : Int32 := let f_1 : Int32 := M 2 h.toNatClampNeg; let f_2 : Int32 := M 2 q.toNatClampNeg; if f_2 ≤ f_1 then (let f_4 : Int32 := M 2 h.toNatClampNeg; let f_5 : Int32 := M 2 q.toNatClampNeg; let f_6 : Int32 := f_4 - f_5; f_6) else (let f_7 : Int32 := M 2 q.toNatClampNeg; let f_8 : Int32 := M 2 h.toNatClampNeg; let f_9 : Int32 := f_7 - f_8; f_9)
set_option maxHeartbeats 4000000 in
set_option maxRecDepth 100000 in
theorem k_Mod_far (l : Launch) (D : va_G) (cA cZ cL : ClassId) (a : Nat) (d : Nat → Nat) (M : Nat → Nat → Int32) (h q : Int32) (hh : vp_in h 6) (hq : vp_in q 6) : MetR l y_Mod_far (Cond.code y_Mod_far c_Mod_far 3 (some .int) :: base) ({ frames := 0, cells := 0, slots := 0, locals := 0 } : Room) D cls (tys3 cA cZ cL) ([.ref a, .int h, .int q]) (wMod cA cZ a d M) (r_Mod_far M h q) := by
  refine Met.ofW (cc := c_Mod_far) (maxL := 3) (ret := (some .int)) (by decide) rfl ?_
  intro p e s m args below meth c s₁ B hml hv
  obtain ⟨rfl, hP, hK, hZ⟩ := hv
  have hx := B.exec
  have hb := B.bytes
  have hr := B.returns
  have hts0 := atoms_spec (ws := (Cond.code y_Mod_far c_Mod_far 3 (some .int) :: base)) B.pre
  have hts : ∀ w ∈ base, w.before _ s = true := fun w h => hts0 w (List.mem_cons_of_mem _ h)
  have hown : s.vm.findClass R_Mod = some m.cls := findClass_of_methodNamed B.named
  have hlocks := B.notSynchronized
  have hP : va_P D cls [(a, .inr (4, [.int (M 0 0), .int (M 0 1), .ref (d 1), .ref (d 2), .ref (d 3), .ref (d 4), .ref (d 5), .ref (d 6), .int (M 0 2), .int (M 0 3), .int (M 0 4), .int (M 0 5), .int (M 0 6), .int (M 0 7), .int (M 0 8), .ref (d 7), .int (M 0 9), .int (M 0 10), .int (M 0 11), .int (M 0 12), .ref (d 8), .ref (d 9), .ref (d 10), .ref (d 11), .ref (d 12), .ref (d 13), .int (M 0 13), .int (M 0 14), .int (M 0 15)])), (d 1, .inl (cA, 6, .inl (M 1))), (d 2, .inl (cA, 6, .inl (M 2))), (d 3, .inl (cA, 6, .inl (M 3))), (d 4, .inl (cA, 6, .inl (M 4))), (d 5, .inl (cA, 6, .inl (M 5))), (d 6, .inl (cA, 6, .inl (M 6))), (d 7, .inl (cA, 36, .inl (M 7))), (d 8, .inl (cA, 6, .inl (M 8))), (d 9, .inl (cA, 7, .inl (M 9))), (d 10, .inl (cA, 6, .inl (M 10))), (d 11, .inl (cA, 6, .inl (M 11))), (d 12, .inl (cA, 6, .inl (M 12))), (d 13, .inl (cZ, 6, .inl (M 13)))] s.heap := hP
  have hl := lv_entry ([.ref a, .int h, .int q]) (n := 3) (Nat.le_of_ble_eq_true rfl)
  rw [lg_entry_eq]
  generalize (lg_sl ([.ref a, .int h, .int q]) ++ List.replicate (3 - (lg_sl ([.ref a, .int h, .int q])).length) Slot.unset).toArray = ls at hl ⊢
  have hl : lv_has ls 3 [(0, .ref a), (1, .int h), (2, .int q)] := hl
  refine lv_aload_n hx hb d_Mod_far_0 rfl (lv_at hl 0 rfl) ?_
  refine va_get (D := D) (ci := 4) (v := .ref (d 2)) (C := R_Mod) (T := T_Mod) (N := 29) hx hb hts i_Mod hown hK hP 0 rfl rfl 3 (by decide) (hts _ mb_526) (fun _ h9 => h9) rfl d_Mod_far_1 ?_
  refine lv_iload_n hx hb d_Mod_far_4 rfl (lv_at hl 1 rfl) ?_
  refine va_iald hx hb hK hP 2 0 rfl rfl hh d_Mod_far_5 ?_
  refine lv_topi (fun f_1 ef_1 => ?_)
  refine lv_aload_n hx hb d_Mod_far_6 rfl (lv_at hl 0 rfl) ?_
  refine va_get (D := D) (ci := 4) (v := .ref (d 2)) (C := R_Mod) (T := T_Mod) (N := 29) hx hb hts i_Mod hown hK hP 0 rfl rfl 3 (by decide) (hts _ mb_526) (fun _ h9 => h9) rfl d_Mod_far_7 ?_
  refine lv_iload_n hx hb d_Mod_far_10 rfl (lv_at hl 2 rfl) ?_
  refine va_iald hx hb hK hP 2 0 rfl rfl hq d_Mod_far_11 ?_
  refine lv_topi (fun f_2 ef_2 => ?_)
  refine lv_icmp_ge (tgt := 31) hx hb d_Mod_far_12 (by decide) (fun c_3 => ?_) (fun c_3 => ?_)
  · skip
    refine lv_aload_n hx hb d_Mod_far_31 rfl (lv_at hl 0 rfl) ?_
    refine va_get (D := D) (ci := 4) (v := .ref (d 2)) (C := R_Mod) (T := T_Mod) (N := 29) hx hb hts i_Mod hown hK hP 0 rfl rfl 3 (by decide) (hts _ mb_526) (fun _ h9 => h9) rfl d_Mod_far_32 ?_
    refine lv_iload_n hx hb d_Mod_far_35 rfl (lv_at hl 1 rfl) ?_
    refine va_iald hx hb hK hP 2 0 rfl rfl hh d_Mod_far_36 ?_
    refine lv_topi (fun f_4 ef_4 => ?_)
    refine lv_aload_n hx hb d_Mod_far_37 rfl (lv_at hl 0 rfl) ?_
    refine va_get (D := D) (ci := 4) (v := .ref (d 2)) (C := R_Mod) (T := T_Mod) (N := 29) hx hb hts i_Mod hown hK hP 0 rfl rfl 3 (by decide) (hts _ mb_526) (fun _ h9 => h9) rfl d_Mod_far_38 ?_
    refine lv_iload_n hx hb d_Mod_far_41 rfl (lv_at hl 2 rfl) ?_
    refine va_iald hx hb hK hP 2 0 rfl rfl hq d_Mod_far_42 ?_
    refine lv_topi (fun f_5 ef_5 => ?_)
    refine lv_isub hx hb d_Mod_far_43 ?_
    refine lv_topi (fun f_6 ef_6 => ?_)
    have e9 : r_Mod_far M h q = f_6 := by
      subst ef_1 ef_2 ef_4 ef_5 ef_6; unfold r_Mod_far; simp only [if_pos c_3]
    exact W.iret (v := f_6) hx hb hr (fun t ht _ => ⟨_, rfl, e9.symm, ht⟩) (fun _ h => by cases h) d_Mod_far_44
  · skip
    refine lv_aload_n hx hb d_Mod_far_15 rfl (lv_at hl 0 rfl) ?_
    refine va_get (D := D) (ci := 4) (v := .ref (d 2)) (C := R_Mod) (T := T_Mod) (N := 29) hx hb hts i_Mod hown hK hP 0 rfl rfl 3 (by decide) (hts _ mb_526) (fun _ h9 => h9) rfl d_Mod_far_16 ?_
    refine lv_iload_n hx hb d_Mod_far_19 rfl (lv_at hl 2 rfl) ?_
    refine va_iald hx hb hK hP 2 0 rfl rfl hq d_Mod_far_20 ?_
    refine lv_topi (fun f_7 ef_7 => ?_)
    refine lv_aload_n hx hb d_Mod_far_21 rfl (lv_at hl 0 rfl) ?_
    refine va_get (D := D) (ci := 4) (v := .ref (d 2)) (C := R_Mod) (T := T_Mod) (N := 29) hx hb hts i_Mod hown hK hP 0 rfl rfl 3 (by decide) (hts _ mb_526) (fun _ h9 => h9) rfl d_Mod_far_22 ?_
    refine lv_iload_n hx hb d_Mod_far_25 rfl (lv_at hl 1 rfl) ?_
    refine va_iald hx hb hK hP 2 0 rfl rfl hh d_Mod_far_26 ?_
    refine lv_topi (fun f_8 ef_8 => ?_)
    refine lv_isub hx hb d_Mod_far_27 ?_
    refine lv_topi (fun f_9 ef_9 => ?_)
    refine lv_goto (tgt := 44) hx hb d_Mod_far_28 (by decide) ?_
    have e9 : r_Mod_far M h q = f_9 := by
      subst ef_1 ef_2 ef_7 ef_8 ef_9; unfold r_Mod_far; simp only [if_neg c_3]
    exact W.iret (v := f_9) hx hb hr (fun t ht _ => ⟨_, rfl, e9.symm, ht⟩) (fun _ h => by cases h) d_Mod_far_44
