/-! rows of my own: a call of a method in one row, for methods that read alone (hr_) and for methods that write (hw_) -/
theorem hw_fm {α β : Type} {f : α → Option β} : ∀ {l : List α} {w : List β}, l.map f = w.map some → l.filterMap f = w
  | [], [], _ => rfl
  | [], _ :: _, h => by simp at h
  | _ :: _, [], h => by simp at h
  | a :: l, b :: w, h => by
    simp only [List.map_cons, List.cons.injEq] at h
    rw [List.filterMap_cons, h.1]
    simp only [hw_fm h.2]
/-- the words on nest mates, which no list of good words holds -/
def hz (U : State) : Prop := va_Nw (.methodLinkNest "HeatOrder$Plan" 60 ⟨"HeatOrder", "within", "(III)Z"⟩ "HeatOrder") U ∧ va_Nw (.methodLinkNest "HeatOrder$Plan" 49 ⟨"HeatOrder", "heatOf", "(II)I"⟩ "HeatOrder") U ∧ va_Nw (.methodLinkNest "HeatOrder$Plan" 53 ⟨"HeatOrder", "casterOf", "(II)I"⟩ "HeatOrder") U ∧ va_Nw (.methodLinkNest "HeatOrder$Search" 69 ⟨"HeatOrder", "withStep", "(IIII)I"⟩ "HeatOrder") U
theorem hz.same {u U : State} (h : hz u) (e : u.vm = U.vm) : hz U := ⟨va_Nw.same rfl e h.1, va_Nw.same rfl e h.2.1, va_Nw.same rfl e h.2.2.1, va_Nw.same rfl e h.2.2.2⟩
theorem hz.warm {s U : State} (h : hz s) (hW : s.WarmedH U.vm) : hz U := ⟨va_Nw.warmM hW h.1, va_Nw.warmM hW h.2.1, va_Nw.warmM hW h.2.2.1, va_Nw.warmM hW h.2.2.2⟩
theorem gi {w : Cond} (h : w ∈ base) : GoodIn base (w :: base) := fun v hv => by
  rcases List.mem_cons.mp hv with rfl | hv
  · exact ⟨h, good_of_word (List.mem_filter.mp h).2⟩
  · exact ⟨hv, good_of_word (List.mem_filter.mp hv).2⟩
abbrev hr_Pre (D : va_G) (cl : List vw_C) (tys : List (ClassId × FieldType)) (w : va_W) : State → Prop := fun U => va_P D cl w U.heap ∧ va_K D cl tys U ∧ hz U
abbrev hw_Pre (D : va_G) (cl : List vw_C) (tys : List (ClassId × FieldType)) (w : va_W) (sz : Nat) : State → Prop := fun U => U.heap.size = sz ∧ va_P D cl w U.heap ∧ va_K D cl tys U ∧ hz U ∧ va_D (fun _ => True) w
abbrev hw_At (D : va_G) (cl : List vw_C) (tys : List (ClassId × FieldType)) (A : Nat → Prop) (w : va_W) : State → Prop := fun t => va_P D cl w t.heap ∧ va_D A w
/-- a method that reads alone: its answer is rv -/
def MetR (l : Launch) (y : MethodName) (ws : List Cond) (rm : Room) (D : va_G) (cl : List vw_C) (tys : List (ClassId × FieldType)) (av : List Value) (w : va_W) (rv : Int32) : Prop :=
  Met l y ws rm (va_Pc av (hr_Pre D cl tys w)) (vp_Si (fun r => r = rv)) 0 0 (fun _ => False)
/-- a method that writes its cells: they were w, they are w1; its answer is rv -/
def MetI (l : Launch) (y : MethodName) (ws : List Cond) (rm : Room) (D : va_G) (cl : List vw_C) (tys : List (ClassId × FieldType)) (av : List Value) (w : va_W) (rv : Int32) (w1 : va_W) : Prop :=
  ∀ sz : Nat, Met l y ws rm (va_Pc av (hw_Pre D cl tys w sz)) (va_Qi (fun r (_ : Unit) => r = rv) (fun _ => hw_At D cl tys (va_A w sz) w1) (va_A w sz)) 0 0 (va_A w sz)
/-- the same, void -/
def MetV (l : Launch) (y : MethodName) (ws : List Cond) (rm : Room) (D : va_G) (cl : List vw_C) (tys : List (ClassId × FieldType)) (av : List Value) (w : va_W) (w1 : va_W) : Prop :=
  ∀ sz : Nat, Met l y ws rm (va_Pc av (hw_Pre D cl tys w sz)) (va_Qv (fun (_ : Unit) => True) (fun _ => hw_At D cl tys (va_A w sz) w1) (va_A w sz)) 0 0 (va_A w sz)
theorem hr_blind {D : va_G} {cl : List vw_C} {tys : List (ClassId × FieldType)} {w : va_W} {av : List Value} : FrameBlind (va_Pc av (hr_Pre D cl tys w)) := fun a U g mk q => by
  obtain ⟨q0, qP, qK, qZ⟩ := q
  exact ⟨q0, qP, va_K.moved (u := U) (U := U.calling g mk a) (Vm.Alike.refl U.vm) qK, qZ.same rfl⟩
theorem hw_blind {D : va_G} {cl : List vw_C} {tys : List (ClassId × FieldType)} {w : va_W} {av : List Value} {sz : Nat} : FrameBlind (va_Pc av (hw_Pre D cl tys w sz)) := fun a U g mk q => by
  obtain ⟨q0, q1, qP, qK, qZ, qD⟩ := q
  exact ⟨q0, q1, qP, va_K.moved (u := U) (U := U.calling g mk a) (Vm.Alike.refl U.vm) qK, qZ.same rfl, qD⟩
section
variable {p : Program} {l : Launch} {e : Env} {R : Room} {s : State} {m : MethodId} {args : Array Value} {below : List Frame} {meth : Method} {c : Code} {H H0 : Heap} {locs : List Loc} {cells slots : Nat} {Q : State → Prop} {y : MethodName} {bytes cc : ByteArray} {maxL nL n index pc : Nat} {ret : Option FieldType} {ws : List Cond} {rm : Room} {Ts : List Cond} {own C host : String} {T : u_T} {N : Nat} {b : Addr} {As rest st0 : List Value} {ls : Array Slot} {D : va_G} {cl : List vw_C} {tys : List (ClassId × FieldType)} {w wc wr w1 : va_W} {rv : Int32} {fs : List Value} {A0 : Nat → Prop}
theorem hr_run {g : JFrame} {Qa : State → Outcome → State → Prop} {free : Addr → Prop} (h : va_Run p l e R s m args below meth c H locs cells slots 0 0 g rest Qa free) : CallRun p l e R s m args below meth c H locs cells slots 0 0 g rest Qa free := fun T hT X => by
  obtain ⟨v, st₀, t, T', L, a1, a2, a3, a4, -, a6, a7⟩ := h T hT X
  exact ⟨v, st₀, t, T', L, a1, a2, a3, a4, a6, a7⟩
theorem hr_callV (S : CallFix p m c cc nL s args Ts own) (hM : MetR l y ws rm D cl tys (.ref b :: As) wc rv) (cw : CallW R s args own C index y bytes maxL ret ws rm 0 0 n) (hK : va_K D cl tys s) (hZ : hz s) (hP : va_P D cl w H) (isC : List Nat) (hC : isC.map (fun i => w[i]?) = wc.map some)
    (q0 ci : Nat) (hc : cl[ci]? = some (C, T, N)) (he : w[q0]? = some (b, .inr (ci, fs))) (hn : As.length = n) (hsize : ls.size = nL) (hst : st0 = As.reverse ++ .ref b :: rest) (hW : 2 * (F0 m pc ls st0).monitorRoom + (rest.map fun v => v.category).sum ≤ 8) (hdg : decode cc pc = .ok (.invokevirtual index, 3)) (hf : cells + 0 ≤ R.cells ∧ slots + 0 ≤ R.slots)
    (kk : W p l e R s m args below meth c H locs cells slots Q (F0 m (pc + 3) ls (.int rv :: rest))) : W p l e R s m args below meth c H locs cells slots Q (F0 m pc ls st0) := by
  subst hst
  refine vp_callSi (W.runV (As := As) (rest := rest) S hM cw ⟨hr_blind, va_recv hK hP hc he, fun U hU hW9 => ⟨rfl, by rw [hU]; exact hP.sub isC (hw_fm hC), va_K.moved hW9.alike hK, hZ.warm hW9⟩⟩ rfl hn hsize rfl hW hdg hf) (fun r hr => ?_)
  rw [hr]; exact kk
theorem hr_callVN (S : CallFix p m c cc nL s args Ts own) (hM : MetR l y ws rm D cl tys (.ref b :: As) wc rv) (cw : va_CN R s args own index y host bytes maxL ret ws rm 0 0 n ∧ (Cond.instanceMethod y).before args s = true ∧ (Cond.selects C y y).before args s = true) (hK : va_K D cl tys s) (hZ : hz s) (hP : va_P D cl w H) (isC : List Nat) (hC : isC.map (fun i => w[i]?) = wc.map some)
    (q0 ci : Nat) (hc : cl[ci]? = some (C, T, N)) (he : w[q0]? = some (b, .inr (ci, fs))) (hn : As.length = n) (hsize : ls.size = nL) (hst : st0 = As.reverse ++ .ref b :: rest) (hW : 2 * (F0 m pc ls st0).monitorRoom + (rest.map fun v => v.category).sum ≤ 8) (hdg : decode cc pc = .ok (.invokevirtual index, 3)) (hf : cells + 0 ≤ R.cells ∧ slots + 0 ≤ R.slots)
    (kk : W p l e R s m args below meth c H locs cells slots Q (F0 m (pc + 3) ls (.int rv :: rest))) : W p l e R s m args below meth c H locs cells slots Q (F0 m pc ls st0) := by
  subst hst
  refine vp_callSi (hr_run (va_runVN (As := As) (rest := rest) S hM cw ⟨hr_blind, va_recv hK hP hc he, fun U hU hW9 => ⟨rfl, by rw [hU]; exact hP.sub isC (hw_fm hC), va_K.moved hW9.alike hK, hZ.warm hW9⟩⟩ rfl hn hsize rfl hW hdg hf)) (fun r hr => ?_)
  rw [hr]; exact kk
theorem hr_callS (S : CallFix p m c cc nL s args Ts own) (hM : MetR l y ws rm D cl tys As wc rv) (cw : CallB R s args own index y bytes maxL ret ws rm 0 0 n ∧ (Cond.static y).before args s = true) (hK : va_K D cl tys s) (hZ : hz s) (hP : va_P D cl w H) (isC : List Nat) (hC : isC.map (fun i => w[i]?) = wc.map some)
    (hn : As.length = n) (hsize : ls.size = nL) (hst : st0 = As.reverse ++ rest) (hW : 2 * (F0 m pc ls st0).monitorRoom + (rest.map fun v => v.category).sum ≤ 8) (hdg : decode cc pc = .ok (.invokestatic index, 3)) (hf : cells + 0 ≤ R.cells ∧ slots + 0 ≤ R.slots)
    (kk : W p l e R s m args below meth c H locs cells slots Q (F0 m (pc + 3) ls (.int rv :: rest))) : W p l e R s m args below meth c H locs cells slots Q (F0 m pc ls st0) := by
  subst hst
  refine vp_callSi (W.runS (As := As) (rest := rest) S hM cw ⟨hr_blind, fun U hU hW9 => ⟨rfl, by rw [hU]; exact hP.sub isC (hw_fm hC), va_K.moved hW9.alike hK, hZ.warm hW9⟩⟩ rfl hn hsize rfl hW hdg hf) (fun r hr => ?_)
  rw [hr]; exact kk
theorem hr_callSN (S : CallFix p m c cc nL s args Ts own) (hM : MetR l y ws rm D cl tys As wc rv) (cw : va_CN R s args own index y host bytes maxL ret ws rm 0 0 n ∧ (Cond.static y).before args s = true ∧ True) (hK : va_K D cl tys s) (hZ : hz s) (hP : va_P D cl w H) (isC : List Nat) (hC : isC.map (fun i => w[i]?) = wc.map some)
    (hn : As.length = n) (hsize : ls.size = nL) (hst : st0 = As.reverse ++ rest) (hW : 2 * (F0 m pc ls st0).monitorRoom + (rest.map fun v => v.category).sum ≤ 8) (hdg : decode cc pc = .ok (.invokestatic index, 3)) (hf : cells + 0 ≤ R.cells ∧ slots + 0 ≤ R.slots)
    (kk : W p l e R s m args below meth c H locs cells slots Q (F0 m (pc + 3) ls (.int rv :: rest))) : W p l e R s m args below meth c H locs cells slots Q (F0 m pc ls st0) := by
  subst hst
  refine vp_callSi (hr_run (va_runSN (As := As) (rest := rest) S hM cw ⟨hr_blind, fun U hU hW9 => ⟨rfl, by rw [hU]; exact hP.sub isC (hw_fm hC), va_K.moved hW9.alike hK, hZ.warm hW9⟩⟩ rfl hn hsize rfl hW hdg hf)) (fun r hr => ?_)
  rw [hr]; exact kk
theorem hw_calli {a2 : Array Value} (hr : va_Run p l e R s m args below meth c H locs cells slots 0 0 (F0 m pc ls st0) rest (va_Qi (fun r (_ : Unit) => r = rv) (fun _ => hw_At D cl tys (va_A wc H.size) w1) (va_A wc H.size) a2) (va_A wc H.size)) (hP : va_P D cl w H) (hD : va_D A0 w) (hS : va_S A0 H0 H locs) (hA : ∀ q, H0.size ≤ q → A0 q) (isC isR : List Nat) (hC : isC.map (fun i => w[i]?) = wc.map some) (hR : isR.map (fun i => w[i]?) = wr.map some) (hnR : va_nd isR = true) (hdis : ∀ i ∈ isR, i ∉ isC)
    (kk : ∀ (H1 : Heap) (locs1 : List Loc), va_P D cl (wr ++ w1) H1 → va_D A0 (wr ++ w1) → va_S A0 H0 H1 locs1 → W p l e R s m args below meth c H1 locs1 cells slots Q (F0 m (pc + 3) ls (.int rv :: rest))) : W p l e R s m args below meth c H locs cells slots Q (F0 m pc ls st0) := by
  have hFc := va_free (wc := wc) hD hS hA isC hC
  refine va_calli hr hS (fun q _ h => hFc q h) hFc (fun r u t H1 locs1 ht hvm hw hB hz1 hk1 hS1 => ?_)
  obtain ⟨hP1, hD1⟩ := hB
  rw [ht] at hP1
  obtain ⟨hP2, hD2⟩ := va_join (wr := wr) (w1 := w1) hP hD isC isR hC hR hnR hdis hk1 hFc hP1 hD1
  rw [hw]
  exact kk H1 locs1 hP2 hD2 hS1
theorem hw_callv {a2 : Array Value} (hr : va_Run p l e R s m args below meth c H locs cells slots 0 0 (F0 m pc ls st0) rest (va_Qv (fun (_ : Unit) => True) (fun _ => hw_At D cl tys (va_A wc H.size) w1) (va_A wc H.size) a2) (va_A wc H.size)) (hP : va_P D cl w H) (hD : va_D A0 w) (hS : va_S A0 H0 H locs) (hA : ∀ q, H0.size ≤ q → A0 q) (isC isR : List Nat) (hC : isC.map (fun i => w[i]?) = wc.map some) (hR : isR.map (fun i => w[i]?) = wr.map some) (hnR : va_nd isR = true) (hdis : ∀ i ∈ isR, i ∉ isC)
    (kk : ∀ (H1 : Heap) (locs1 : List Loc), va_P D cl (wr ++ w1) H1 → va_D A0 (wr ++ w1) → va_S A0 H0 H1 locs1 → W p l e R s m args below meth c H1 locs1 cells slots Q (F0 m (pc + 3) ls rest)) : W p l e R s m args below meth c H locs cells slots Q (F0 m pc ls st0) := by
  have hFc := va_free (wc := wc) hD hS hA isC hC
  refine va_callv hr hS (fun q _ h => hFc q h) hFc (fun u t H1 locs1 ht hvm hw hB hz1 hk1 hS1 => ?_)
  obtain ⟨hP1, hD1⟩ := hB
  rw [ht] at hP1
  obtain ⟨hP2, hD2⟩ := va_join (wr := wr) (w1 := w1) hP hD isC isR hC hR hnR hdis hk1 hFc hP1 hD1
  exact kk H1 locs1 hP2 hD2 hS1
theorem hw_callVi (S : CallFix p m c cc nL s args Ts own) (hM : MetI l y ws rm D cl tys (.ref b :: As) wc rv w1) (cw : CallW R s args own C index y bytes maxL ret ws rm 0 0 n) (hK : va_K D cl tys s) (hZ : hz s) (hP : va_P D cl w H) (hD : va_D A0 w) (hS : va_S A0 H0 H locs) (hA : ∀ q, H0.size ≤ q → A0 q) (isC isR : List Nat) (hC : isC.map (fun i => w[i]?) = wc.map some) (hR : isR.map (fun i => w[i]?) = wr.map some) (hnC : va_nd isC = true) (hnR : va_nd isR = true) (hdis : ∀ i ∈ isR, i ∉ isC)
    (q0 ci : Nat) (hc : cl[ci]? = some (C, T, N)) (he : w[q0]? = some (b, .inr (ci, fs))) (hn : As.length = n) (hsize : ls.size = nL) (hst : st0 = As.reverse ++ .ref b :: rest) (hW : 2 * (F0 m pc ls st0).monitorRoom + (rest.map fun v => v.category).sum ≤ 8) (hdg : decode cc pc = .ok (.invokevirtual index, 3)) (hf : cells + 0 ≤ R.cells ∧ slots + 0 ≤ R.slots)
    (kk : ∀ (H1 : Heap) (locs1 : List Loc), va_P D cl (wr ++ w1) H1 → va_D A0 (wr ++ w1) → va_S A0 H0 H1 locs1 → W p l e R s m args below meth c H1 locs1 cells slots Q (F0 m (pc + 3) ls (.int rv :: rest))) : W p l e R s m args below meth c H locs cells slots Q (F0 m pc ls st0) := by
  subst hst
  have hDc := hD.sub (ws' := wc) isC hnC hC
  exact hw_calli (va_runV (As := As) (rest := rest) S (hM H.size) cw ⟨hw_blind, va_recv hK hP hc he, fun U hU hW9 => ⟨rfl, by rw [hU], by rw [hU]; exact hP.sub isC (hw_fm hC), va_K.moved hW9.alike hK, hZ.warm hW9, hDc.weaken (fun _ _ _ _ => trivial)⟩⟩ rfl hn hsize rfl hW hdg hf) hP hD hS hA isC isR hC hR hnR hdis kk
theorem hw_callVNi (S : CallFix p m c cc nL s args Ts own) (hM : MetI l y ws rm D cl tys (.ref b :: As) wc rv w1) (cw : va_CN R s args own index y host bytes maxL ret ws rm 0 0 n ∧ (Cond.instanceMethod y).before args s = true ∧ (Cond.selects C y y).before args s = true) (hK : va_K D cl tys s) (hZ : hz s) (hP : va_P D cl w H) (hD : va_D A0 w) (hS : va_S A0 H0 H locs) (hA : ∀ q, H0.size ≤ q → A0 q) (isC isR : List Nat) (hC : isC.map (fun i => w[i]?) = wc.map some) (hR : isR.map (fun i => w[i]?) = wr.map some) (hnC : va_nd isC = true) (hnR : va_nd isR = true) (hdis : ∀ i ∈ isR, i ∉ isC)
    (q0 ci : Nat) (hc : cl[ci]? = some (C, T, N)) (he : w[q0]? = some (b, .inr (ci, fs))) (hn : As.length = n) (hsize : ls.size = nL) (hst : st0 = As.reverse ++ .ref b :: rest) (hW : 2 * (F0 m pc ls st0).monitorRoom + (rest.map fun v => v.category).sum ≤ 8) (hdg : decode cc pc = .ok (.invokevirtual index, 3)) (hf : cells + 0 ≤ R.cells ∧ slots + 0 ≤ R.slots)
    (kk : ∀ (H1 : Heap) (locs1 : List Loc), va_P D cl (wr ++ w1) H1 → va_D A0 (wr ++ w1) → va_S A0 H0 H1 locs1 → W p l e R s m args below meth c H1 locs1 cells slots Q (F0 m (pc + 3) ls (.int rv :: rest))) : W p l e R s m args below meth c H locs cells slots Q (F0 m pc ls st0) := by
  subst hst
  have hDc := hD.sub (ws' := wc) isC hnC hC
  exact hw_calli (va_runVN (As := As) (rest := rest) S (hM H.size) cw ⟨hw_blind, va_recv hK hP hc he, fun U hU hW9 => ⟨rfl, by rw [hU], by rw [hU]; exact hP.sub isC (hw_fm hC), va_K.moved hW9.alike hK, hZ.warm hW9, hDc.weaken (fun _ _ _ _ => trivial)⟩⟩ rfl hn hsize rfl hW hdg hf) hP hD hS hA isC isR hC hR hnR hdis kk
theorem hw_callVv (S : CallFix p m c cc nL s args Ts own) (hM : MetV l y ws rm D cl tys (.ref b :: As) wc w1) (cw : CallW R s args own C index y bytes maxL ret ws rm 0 0 n) (hK : va_K D cl tys s) (hZ : hz s) (hP : va_P D cl w H) (hD : va_D A0 w) (hS : va_S A0 H0 H locs) (hA : ∀ q, H0.size ≤ q → A0 q) (isC isR : List Nat) (hC : isC.map (fun i => w[i]?) = wc.map some) (hR : isR.map (fun i => w[i]?) = wr.map some) (hnC : va_nd isC = true) (hnR : va_nd isR = true) (hdis : ∀ i ∈ isR, i ∉ isC)
    (q0 ci : Nat) (hc : cl[ci]? = some (C, T, N)) (he : w[q0]? = some (b, .inr (ci, fs))) (hn : As.length = n) (hsize : ls.size = nL) (hst : st0 = As.reverse ++ .ref b :: rest) (hW : 2 * (F0 m pc ls st0).monitorRoom + (rest.map fun v => v.category).sum ≤ 8) (hdg : decode cc pc = .ok (.invokevirtual index, 3)) (hf : cells + 0 ≤ R.cells ∧ slots + 0 ≤ R.slots)
    (kk : ∀ (H1 : Heap) (locs1 : List Loc), va_P D cl (wr ++ w1) H1 → va_D A0 (wr ++ w1) → va_S A0 H0 H1 locs1 → W p l e R s m args below meth c H1 locs1 cells slots Q (F0 m (pc + 3) ls rest)) : W p l e R s m args below meth c H locs cells slots Q (F0 m pc ls st0) := by
  subst hst
  have hDc := hD.sub (ws' := wc) isC hnC hC
  exact hw_callv (va_runV (As := As) (rest := rest) S (hM H.size) cw ⟨hw_blind, va_recv hK hP hc he, fun U hU hW9 => ⟨rfl, by rw [hU], by rw [hU]; exact hP.sub isC (hw_fm hC), va_K.moved hW9.alike hK, hZ.warm hW9, hDc.weaken (fun _ _ _ _ => trivial)⟩⟩ rfl hn hsize rfl hW hdg hf) hP hD hS hA isC isR hC hR hnR hdis kk
theorem hw_callVNv (S : CallFix p m c cc nL s args Ts own) (hM : MetV l y ws rm D cl tys (.ref b :: As) wc w1) (cw : va_CN R s args own index y host bytes maxL ret ws rm 0 0 n ∧ (Cond.instanceMethod y).before args s = true ∧ (Cond.selects C y y).before args s = true) (hK : va_K D cl tys s) (hZ : hz s) (hP : va_P D cl w H) (hD : va_D A0 w) (hS : va_S A0 H0 H locs) (hA : ∀ q, H0.size ≤ q → A0 q) (isC isR : List Nat) (hC : isC.map (fun i => w[i]?) = wc.map some) (hR : isR.map (fun i => w[i]?) = wr.map some) (hnC : va_nd isC = true) (hnR : va_nd isR = true) (hdis : ∀ i ∈ isR, i ∉ isC)
    (q0 ci : Nat) (hc : cl[ci]? = some (C, T, N)) (he : w[q0]? = some (b, .inr (ci, fs))) (hn : As.length = n) (hsize : ls.size = nL) (hst : st0 = As.reverse ++ .ref b :: rest) (hW : 2 * (F0 m pc ls st0).monitorRoom + (rest.map fun v => v.category).sum ≤ 8) (hdg : decode cc pc = .ok (.invokevirtual index, 3)) (hf : cells + 0 ≤ R.cells ∧ slots + 0 ≤ R.slots)
    (kk : ∀ (H1 : Heap) (locs1 : List Loc), va_P D cl (wr ++ w1) H1 → va_D A0 (wr ++ w1) → va_S A0 H0 H1 locs1 → W p l e R s m args below meth c H1 locs1 cells slots Q (F0 m (pc + 3) ls rest)) : W p l e R s m args below meth c H locs cells slots Q (F0 m pc ls st0) := by
  subst hst
  have hDc := hD.sub (ws' := wc) isC hnC hC
  exact hw_callv (va_runVN (As := As) (rest := rest) S (hM H.size) cw ⟨hw_blind, va_recv hK hP hc he, fun U hU hW9 => ⟨rfl, by rw [hU], by rw [hU]; exact hP.sub isC (hw_fm hC), va_K.moved hW9.alike hK, hZ.warm hW9, hDc.weaken (fun _ _ _ _ => trivial)⟩⟩ rfl hn hsize rfl hW hdg hf) hP hD hS hA isC isR hC hR hnR hdis kk
end
theorem bv_V {R : Room} {s : State} {args : Array Value} {own C : String} {index maxL : Nat} {y : MethodName} {bytes : ByteArray} {ret : Option FieldType} {rm : Room} (n : Nat) (hts : ∀ w ∈ base, w.before args s = true) (hcd : Cond.code y bytes maxL ret ∈ base) (hini : (Cond.initialized y.cls).before args s = true) (hl : (Cond.methodLink own index y).before args s = true) (hin : (Cond.instanceMethod y).before args s = true) (hsel : (Cond.selects C y y).before args s = true)
    (hd : y.cls ≠ "java/lang/invoke/MethodHandle" ∧ y.cls ≠ "java/lang/invoke/VarHandle" ∧ (parseMethodDescriptor y.desc).map (fun d => d.parameters.length) = some n) (hR : rm.frames + 1 ≤ R.frames ∧ 8 + (maxL + 11) + rm.locals ≤ R.locals) (hrc : rm.cells = 0 := by rfl) (hrs : rm.slots = 0 := by rfl) : CallW R s args own C index y bytes maxL ret (Cond.code y bytes maxL ret :: base) rm 0 0 n :=
  ⟨callB_of n hts (gi hcd) rfl hrc hrs hini hl hd hR, hin, hsel⟩
theorem bs_S {R : Room} {s : State} {args : Array Value} {own : String} {index maxL : Nat} {y : MethodName} {bytes : ByteArray} {ret : Option FieldType} {rm : Room} (n : Nat) (hts : ∀ w ∈ base, w.before args s = true) (hcd : Cond.code y bytes maxL ret ∈ base) (hini : (Cond.initialized y.cls).before args s = true) (hl : (Cond.methodLink own index y).before args s = true) (hst : (Cond.static y).before args s = true)
    (hd : y.cls ≠ "java/lang/invoke/MethodHandle" ∧ y.cls ≠ "java/lang/invoke/VarHandle" ∧ (parseMethodDescriptor y.desc).map (fun d => d.parameters.length) = some n) (hR : rm.frames + 1 ≤ R.frames ∧ 8 + (maxL + 11) + rm.locals ≤ R.locals) (hrc : rm.cells = 0 := by rfl) (hrs : rm.slots = 0 := by rfl) : CallB R s args own index y bytes maxL ret (Cond.code y bytes maxL ret :: base) rm 0 0 n ∧ (Cond.static y).before args s = true :=
  ⟨callB_of n hts (gi hcd) rfl hrc hrs hini hl hd hR, hst⟩
theorem bn_S {R : Room} {s : State} {args : Array Value} {own host : String} {index maxL : Nat} {y : MethodName} {bytes : ByteArray} {ret : Option FieldType} {rm : Room} (n : Nat) (hts : ∀ w ∈ base, w.before args s = true) (hcd : Cond.code y bytes maxL ret ∈ base) (hini : (Cond.initialized y.cls).before args s = true) (hl : va_Nw (.methodLinkNest own index y host) s) (hst : (Cond.static y).before args s = true)
    (hd : y.cls ≠ "java/lang/invoke/MethodHandle" ∧ y.cls ≠ "java/lang/invoke/VarHandle" ∧ (parseMethodDescriptor y.desc).map (fun d => d.parameters.length) = some n) (hR : rm.frames + 1 ≤ R.frames ∧ 8 + (maxL + 11) + rm.locals ≤ R.locals) (hrc : rm.cells = 0 := by rfl) (hrs : rm.slots = 0 := by rfl) : va_CN R s args own index y host bytes maxL ret (Cond.code y bytes maxL ret :: base) rm 0 0 n ∧ (Cond.static y).before args s = true ∧ True :=
  ⟨va_cnB n hts (gi hcd) rfl hrc hrs hl hini hd hR, hst, trivial⟩
/-- tables of rows and of numbers -/
def tb : List (Nat → Int32) → Nat → Nat → Int32
  | [], _ => fun _ => 0
  | a :: _, 0 => a
  | _ :: l, n + 1 => tb l n
def tv : List Int32 → Nat → Int32
  | [], _ => 0
  | a :: _, 0 => a
  | _ :: l, n + 1 => tv l n
abbrev tys3 (cA cZ cL : ClassId) : List (ClassId × FieldType) := [(cA, .int), (cZ, .boolean), (cL, .long)]
/-- the cells of a Shop at a, its rows at d 1 .. d 7 -/
abbrev wShop (cA : ClassId) (a : Nat) (d : Nat → Nat) (S : Nat → Nat → Int32) : va_W := [(a, .inr (2, [.int (S 0 0), .ref (d 1), .ref (d 2), .ref (d 3), .ref (d 4), .ref (d 5), .ref (d 6), .int (S 0 1), .int (S 0 2), .int (S 0 3), .int (S 0 4), .int (S 0 5), .int (S 0 6), .int (S 0 7), .ref (d 7)])), (d 1, .inl (cA, 6, .inl (S 1))), (d 2, .inl (cA, 6, .inl (S 2))), (d 3, .inl (cA, 6, .inl (S 3))), (d 4, .inl (cA, 6, .inl (S 4))), (d 5, .inl (cA, 6, .inl (S 5))), (d 6, .inl (cA, 6, .inl (S 6))), (d 7, .inl (cA, 36, .inl (S 7)))]
/-- the cells of a Plan at a of the shop at b, its rows at d 0 .. d 10 -/
abbrev wPlan (cA : ClassId) (a : Nat) (d : Nat → Nat) (b : Nat) (p : Nat → Nat → Int32) : va_W := [(a, .inr (0, [.ref b, .ref (d 0), .ref (d 1), .ref (d 2), .ref (d 3), .ref (d 4), .ref (d 5), .ref (d 6), .ref (d 7), .ref (d 8), .ref (d 9), .ref (d 10)])), (d 0, .inl (cA, 6, .inl (p 0))), (d 1, .inl (cA, 6, .inl (p 1))), (d 2, .inl (cA, 6, .inl (p 2))), (d 3, .inl (cA, 6, .inl (p 3))), (d 4, .inl (cA, 6, .inl (p 4))), (d 5, .inl (cA, 6, .inl (p 5))), (d 6, .inl (cA, 6, .inl (p 6))), (d 7, .inl (cA, 6, .inl (p 7))), (d 8, .inl (cA, 7, .inl (p 8))), (d 9, .inl (cA, 7, .inl (p 9))), (d 10, .inl (cA, 7, .inl (p 10)))]
/-- a Search's own cell -/
abbrev wSrch (a b t : Nat) (x : Nat → Int32) : va_W := [(a, .inr (1, [.ref b, .ref t, .int (x 0), .int (x 1), .int (x 2), .int (x 3), .int (x 4), .int (x 5)]))]
theorem in_le {x : Int32} {n k : Nat} (h : vp_in x n) (hk : n ≤ k) : vp_in x k := by
  rw [vp_in_iff] at h ⊢
  omega
theorem in_s {x : Int32} {n : Nat} (h : vp_in x n) (hn : n < 2 ^ 30) : vp_in (x + 1) (n + 1) := by
  obtain ⟨j, hj, rfl⟩ := vp_in_of h (by omega)
  rw [nI_1]
  exact vp_in_nI (by omega) (by omega)
theorem in_66 {x y : Int32} (h : vp_in x 6) (h2 : vp_in y 6) : vp_in (x * 6 + y) 36 := by
  obtain ⟨i, hi, rfl⟩ := vp_in_of h (by decide)
  obtain ⟨j, hj, rfl⟩ := vp_in_of h2 (by decide)
  have e : nI i * 6 + nI j = nI (i * 6 + j) := by
    rw [show (6 : Int32) = nI 6 from rfl, pk_mul, nI_add]
  rw [e]
  exact vp_in_nI (by omega) (by decide)
