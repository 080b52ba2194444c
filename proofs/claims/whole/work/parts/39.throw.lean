/-! rows of my own: throw and catch -/
/-- the classes that are thrown, by number -/
def en : Nat → String
  | 1 => "java/lang/IllegalStateException"
  | 2 => "java/lang/IllegalArgumentException"
  | 3 => "java/lang/IndexOutOfBoundsException"
  | _ => "java/lang/UnsupportedOperationException"
/-- the entry of each class's constructor in HeatOrder's pool -/
def eic : Nat → Nat
  | 1 => 47
  | 2 => 62
  | 3 => 74
  | _ => 189
def eUp : List String := ["java/lang/RuntimeException", "java/lang/Exception"]
/-- words on throwing that no list of good words holds -/
def xT : List Cond := [.laysStatic Bundle.tN "UNASSIGNED_STACK" Bundle.steD, .laysStatic Bundle.tN "SUPPRESSED_SENTINEL" Bundle.listD, .isRef (.static Bundle.tN "UNASSIGNED_STACK" Bundle.steD), .isRef (.static Bundle.tN "SUPPRESSED_SENTINEL" Bundle.listD),
  .declares (Bundle.initS "java/lang/RuntimeException"), .declares (Bundle.initS "java/lang/Exception"), .declares (Bundle.initS "java/lang/Throwable"),
  .castable (en 1) (en 1), .castable (en 2) (en 2), .castable (en 3) (en 3), .castable (en 4) (en 4),
  .not (.castable (en 1) (en 2)), .not (.castable (en 1) (en 3)), .not (.castable (en 1) (en 4)), .not (.castable (en 2) (en 1)), .not (.castable (en 2) (en 3)), .not (.castable (en 2) (en 4)), .not (.castable (en 3) (en 1)), .not (.castable (en 3) (en 2)), .not (.castable (en 3) (en 4)), .not (.castable (en 4) (en 1)), .not (.castable (en 4) (en 2)), .not (.castable (en 4) (en 3))]
/-- the texts, by their entries -/
def xStr : List (Nat × String) := [(45, "there are 6 heats"), (60, "a heat that can't be"), (72, "no such heat"), (75, "a due minute that can't be"), (81, "rules that can't be"), (99, "costs that can't be"), (107, "no such grades"), (109, "a cost that can't be"), (114, "so many nodes can't be"), (134, "no such what"), (136, "there was no planning"), (144, "there is no plan"), (146, "no such step or what"), (180, "not each heat once"), (187, "a caster may not cast it, or it is not good")]
def hy (U : State) : Prop := (∀ w ∈ xT, ∀ A : Array Value, w.before A U = true) ∧ ∀ q ∈ xStr, ∀ A : Array Value, (Cond.stringRef "HeatOrder" q.1 q.2).before A U = true
theorem xT_keeps : xT.all Cond.keepsCast = true := by decide +kernel
theorem hy_lays {O f d : String} {A : Array Value} {u U : State} (hvm : u.vm = U.vm) (hst : ∀ (q : Nat) (cell : Cell), u.heap[q]? = some cell → cell.vm.isStatics = true → U.heap[q]? = some cell) (h : (Cond.laysStatic O f d).before A u = true) : (Cond.laysStatic O f d).before A U = true := by
  obtain ⟨c, k, i, fd, a, cell, hc, hf, hs, hsta, hcell, hiss, hcls, hlt, hty⟩ := Cond.laysStatic_spec h
  have hf' : U.fieldFound? O f d = some (c, k, i, fd) := by
    rw [← hf]; unfold State.fieldFound?; rw [hvm]
  simp [Cond.before, Cond.holds, Cond.value, ← hvm, hc, hf', hs, hsta, hst _ _ hcell hiss, hiss, hcls, hlt, hty]
theorem hy_ref {O f d : String} {A : Array Value} {u U : State} (hvm : u.vm = U.vm) (hst : ∀ (q : Nat) (cell : Cell), u.heap[q]? = some cell → cell.vm.isStatics = true → U.heap[q]? = some cell) (h0 : (Cond.laysStatic O f d).before A u = true) (h : (Cond.isRef (.static O f d)).before A u = true) : (Cond.isRef (.static O f d)).before A U = true := by
  obtain ⟨c, k, i, fd, a, cell, hc, hf, hs, hsta, hcell, hiss, hcls, hlt, hty⟩ := Cond.laysStatic_spec h0
  have hf' : U.fieldFound? O f d = some (c, k, i, fd) := by
    rw [← hf]; unfold State.fieldFound?; rw [hvm]
  simpa [Cond.before, Cond.holds, Cond.value, Term.eval, State.fieldNamed?, hf, hf', hs, hsta, hst _ _ hcell hiss, hcell, hiss] using h
theorem hy.move {s U : State} (hW : s.WarmedH U.vm) (hst : ∀ (q : Nat) (cell : Cell), s.heap[q]? = some cell → cell.vm.isStatics = true → U.heap[q]? = some cell) (h : hy s) : hy U := by
  have h1 : ∀ w ∈ xT, ∀ A : Array Value, w.before A (s.setVm U.vm) = true := fun w hw A => Cond.before_shiftedCast (State.Shifted.of_warmed hW) w (List.all_eq_true.mp xT_keeps w hw) (h.1 w hw A)
  refine ⟨?_, fun q hq A => ?_⟩
  · have g0 := h1 _ (List.mem_of_getElem? (i := 0) rfl)
    have g1 := h1 _ (List.mem_of_getElem? (i := 1) rfl)
    have g2 := h1 _ (List.mem_of_getElem? (i := 2) rfl)
    have g3 := h1 _ (List.mem_of_getElem? (i := 3) rfl)
    intro w hw A
    have g := h1 w hw A
    simp only [xT, List.mem_cons, List.not_mem_nil, or_false] at hw
    rcases hw with rfl | rfl | rfl | rfl | hw
    · exact hy_lays (u := s.setVm U.vm) rfl hst g
    · exact hy_lays (u := s.setVm U.vm) rfl hst g
    · exact hy_ref (u := s.setVm U.vm) rfl hst (g0 A) g
    · exact hy_ref (u := s.setVm U.vm) rfl hst (g1 A) g
    · rcases hw with rfl | rfl | rfl | rfl | rfl | rfl | rfl | rfl | rfl | rfl | rfl | rfl | rfl | rfl | rfl | rfl | rfl | rfl | rfl <;> exact g
  · have g := Cond.stringRef_warmed hW (h.2 q hq A)
    exact g
theorem own_in1 : (Bundle.ownAtoms "HeatOrder" (eic 1) (en 1) eUp).all (fun w => (goodWord w && decide (w ∈ lw_tbl)) || decide (w ∈ xT)) = true := by decide +kernel
theorem own_in2 : (Bundle.ownAtoms "HeatOrder" (eic 2) (en 2) eUp).all (fun w => (goodWord w && decide (w ∈ lw_tbl)) || decide (w ∈ xT)) = true := by decide +kernel
theorem own_in3 : (Bundle.ownAtoms "HeatOrder" (eic 3) (en 3) eUp).all (fun w => (goodWord w && decide (w ∈ lw_tbl)) || decide (w ∈ xT)) = true := by decide +kernel
theorem own_in4 : (Bundle.ownAtoms "HeatOrder" (eic 4) (en 4) eUp).all (fun w => (goodWord w && decide (w ∈ lw_tbl)) || decide (w ∈ xT)) = true := by decide +kernel
theorem own_ok {k : Nat} (hk : k = 1 ∨ k = 2 ∨ k = 3 ∨ k = 4) {args : Array Value} {s : State} (hts : ∀ w ∈ base, w.before args s = true) (h : hy s) : ∀ a ∈ Bundle.ownAtoms "HeatOrder" (eic k) (en k) eUp, a.before args s = true := by
  have go : ∀ L : List Cond, L.all (fun w => (goodWord w && decide (w ∈ lw_tbl)) || decide (w ∈ xT)) = true → ∀ a ∈ L, a.before args s = true := by
    intro L hL a ha
    have h1 := List.all_eq_true.mp hL a ha
    simp only [Bool.or_eq_true, Bool.and_eq_true, decide_eq_true_eq] at h1
    rcases h1 with ⟨h1, h2⟩ | h1
    · exact hts a (List.mem_filter.mpr ⟨h2, h1⟩)
    · exact h.1 a h1 args
  rcases hk with rfl | rfl | rfl | rfl
  · exact go _ own_in1
  · exact go _ own_in2
  · exact go _ own_in3
  · exact go _ own_in4
section
variable {p : Program} {l : Launch} {e : Env} {R : Room} {s : State} {m : MethodId} {args : Array Value} {below : List Frame} {meth : Method} {c : Code} {H : Heap} {locs : List Loc} {cells slots : Nat}
/-- the state of the entry, with the heap of now -/
abbrev hx_now (s T : State) : State := { s with heap := T.heap, slotsUsed := T.slotsUsed }
theorem hx_rebase {T : State} (X : Stand p l e R s m args below meth c T locs cells slots) (hc : cells ≤ R.cells) (hs : slots ≤ R.slots) : Stand p l e { R with cells := R.cells - cells, slots := R.slots - slots } (hx_now s T) m args below meth c T [] 0 0 := by
  have hroom := X.room
  have hbook := X.book
  have hsize := X.heapSize
  have hused := X.used
  refine ⟨X.admits, X.cas, X.clock, X.frames, ?_, X.hears, X.method, X.code, X.here, X.tail, X.warmed, X.limits, X.bytes, ?_⟩
  · simp only [State.hasRoom, Bool.and_eq_true, decide_eq_true_eq] at hroom ⊢
    obtain ⟨⟨⟨⟨h1, h2⟩, h3⟩, h4⟩, h5⟩ := hroom
    refine ⟨⟨⟨⟨h1, h2⟩, ?_⟩, ?_⟩, ?_⟩
    · show T.heap.size + (R.cells - cells) ≤ _
      omega
    · show T.slotsUsed + (R.slots - slots) ≤ _
      omega
    · exact hbook
  · have h1 := X.same.1
    refine ⟨?_, Nat.le_refl _, Nat.le_refl _, ?_, ?_, fun a cell ha => ⟨cell, ha, rfl, rfl, fun _ _ => rfl⟩⟩
    · exact h1
    · show T.slotsUsed = T.slotsUsed + ((T.heap.toList.drop T.heap.size).map (·.slots.size)).sum
      rw [List.drop_eq_nil_of_le (by simp)]
      rfl
    · show ((T.heap.toList.drop T.heap.size).map (·.slots.size)).sum ≤ 0
      rw [List.drop_eq_nil_of_le (by simp)]
      exact Nat.le_refl _
theorem hx_kept {a b : State} {c n : Nat} (h : a.sameButNew b [] c n) {q : Nat} {cell : Cell} (hq : a.heap[q]? = some cell) : b.heap[q]? = some cell := by
  obtain ⟨c', h1, h2, h3, h4⟩ := h.2.2.2.2.2 q cell hq
  have h5 : c'.slots = cell.slots := by
    apply Array.ext_getElem?
    intro i
    exact h4 i (by simp)
  rw [h1, h2, h5]
end
section
variable {p : Program} {l : Launch} {e : Env} {R : Room} {s : State} {m : MethodId} {args : Array Value} {below : List Frame} {meth : Method} {c : Code} {H : Heap} {locs : List Loc} {cells slots : Nat}
/-- where a walk may end, by an answer or by a throw -/
def XQ (below : List Frame) (Qc : Array Value → State → Outcome → State → Prop) (args : Array Value) (s : State) : State → Prop := fun t => ∃ o : Outcome, t.status = .running ∧ Ended t below o ∧ Qc args s o t
/-- how a method ends that may throw: k = 0: it answers rv; else it throws an object of the class en k -/
def hx_Q (D : va_G) (cl : List vw_C) (tys : List (ClassId × FieldType)) (k : Nat) (rv : Option Value) (w1 : va_W) (A : Nat → Prop) : Array Value → State → Outcome → State → Prop := fun _ st o t =>
  st.WarmedH t.vm ∧ va_F A st t ∧ hw_At D cl tys A w1 t ∧ (∃ L : List Loc, st.sameButNew ({ t with vm := st.vm } : State) L 1 6 ∧ ∀ x ∈ L, A x.base) ∧
  ((k = 0 ∧ o = .returned rv) ∨ (k ≠ 0 ∧ ∃ (q : Nat) (cell : Cell), o = .threw q ∧ t.heap[q]? = some cell ∧ cell.vm.isStatics = false ∧ st.vm.findClass (en k) = some cell.cls ∧ st.heap.size ≤ q))
theorem W.weak {Q Q' : State → Prop} {g : JFrame} (h : ∀ t, Q t → Q' t) (k : W p l e R s m args below meth c H locs cells slots Q g) : W p l e R s m args below meth c H locs cells slots Q' g := by
  intro T hT X
  obtain ⟨t, a, b⟩ := k T hT X
  exact ⟨t, a, h t b⟩
theorem hx_throw {D : va_G} {cl : List vw_C} {tys : List (ClassId × FieldType)} {w : va_W} {A : Nat → Prop} {cc : ByteArray} {maxL pc i0 i1 k : Nat} {text : String} {ls : Array Slot} {rv : Option Value} (hx : p.tables.exec = Jvm.exec) (hb : c.code = cc) (htr : l.stackTraces = false) (hown : s.vm.findClass "HeatOrder" = some m.cls) (hlocks : meth.locks = false) (hex : c.exceptionTable.isEmpty = true) (hml : c.maxLocals = maxL)
    (hts : ∀ w ∈ base, w.before args s = true) (hY : hy s) (hP : va_P D cl w H) (hD : va_D A w) (hS : va_S A s.heap H locs) (hA : ∀ q, s.heap.size ≤ q → A q) (hst : ∀ (q : Nat) (cell : Cell), A q → s.heap[q]? = some cell → cell.vm.isStatics = false)
    (hk : k = 1 ∨ k = 2 ∨ k = 3 ∨ k = 4) (hsize : ls.size = maxL) (hcl : Cond.classLink "HeatOrder" i0 (en k) ∈ base) (hin : Cond.initialized (en k) ∈ base) (htx : (i1, text) ∈ xStr)
    (d0 : decode cc pc = .ok (.new i0, 3)) (d1 : decode cc (pc + 3) = .ok (.dup, 1)) (d2 : decode cc (pc + 4) = .ok (.ldc i1, 2)) (d3 : decode cc (pc + 6) = .ok (.invokespecial (eic k), 3)) (d4 : decode cc (pc + 9) = .ok (.athrow, 1))
    (hf : 5 < R.frames ∧ 90 ≤ R.locals) (hc : cells + 1 ≤ 1 ∧ slots + 6 ≤ 6) (hR : 1 ≤ R.cells ∧ 6 ≤ R.slots) : W p l e R s m args below meth c H locs cells slots (XQ below (hx_Q D cl tys k rv w A) args s) (F0 m pc ls []) := by
  intro T hT X
  subst hT
  have X0 := hx_rebase X (by omega) (by omega)
  have hW0 : s.WarmedH (hx_now s T).vm := State.WarmedH.refl s
  have hts0 : ∀ w ∈ base, w.before args (hx_now s T) = true := fun w hw => word_at hW0 (good_of_word (List.mem_filter.mp hw).2) (hts w hw)
  have hY0 : hy (hx_now s T) := hy.move hW0 (fun q cell h1 h2 => by
    have hlt := (Array.getElem?_eq_some_iff.mp h1).1
    have hnA : ¬ A q := fun h => by rw [hst q cell h h1] at h2; cases h2
    show T.heap[q]? = some cell
    rw [hS.2.1 q hlt hnA]; exact h1) hY
  have h0 := own_ok hk hts0 hY0
  have hins : (Cond.instantiable (en k) 6).before args (hx_now s T) = true := h0 _ (by simp [Bundle.ownAtoms])
  have hown0 : (hx_now s T).vm.findClass "HeatOrder" = some m.cls := hown
  obtain ⟨vm', cC, kC, hfC, hkC, hord, hn6, X1, st1⟩ := X0.newCold hx hown0 (hts0 _ hcl) hins (hts0 _ hin) (g := F0 m pc ls []) rfl (by rw [hb]; exact d0) (by show 0 + 1 ≤ R.cells - cells; omega) (by show 0 + 6 ≤ R.slots - slots; omega)
  have htx' := hY0.2 _ htx args
  obtain ⟨-, -, -, sa, -, -, -, -, -, hev⟩ := Cond.stringRef_spec hown0 htx'
  have st2 := X1.ldcString hx hown0 htx' hev (g := F0 m (pc + 4) ls [.ref T.heap.size, .ref T.heap.size]) rfl (by rw [hb]; exact d2)
  have hnamesfit : ∀ n ∈ eUp, Bundle.fit n = true := by decide +kernel
  have hfit : Bundle.fit (en k) = true := by rcases hk with rfl | rfl | rfl | rfl <;> decide +kernel
  obtain ⟨U, st3, hrun, hend, hWU, hsame, ce, hce, hOC⟩ := X1.ctorThrowS hx (by rw [X.admits.platform]; exact htr) hown0 hfit hnamesfit h0 (fun x hx' => by cases hx') (a := T.heap.size) hfC hkC (by simp [State.pushCell, freshCell]) (Nat.le_refl _) (msg := .ref sa) rfl (g := F0 m (pc + 6) ls [.ref sa, .ref T.heap.size, .ref T.heap.size]) rfl (by rw [hml]; exact hsize) rfl rfl rfl (by rw [hb]; exact d3) (by rw [hb]; exact d4) (fun x hx' => by rw [Array.isEmpty_iff.mp hex] at hx'; cases hx') (by show 2 + 3 < R.frames; omega) (by show _ ≤ R.locals; simp [JFrame.monitorRoom, Value.category, eUp]; omega) hlocks
  have hkeep : ∀ (q : Nat) (cell : Cell), T.heap[q]? = some cell → U.heap[q]? = some cell := fun q cell hq => hx_kept hsame hq
  have hsz : T.heap.size ≤ U.heap.size := hsame.2.1
  have hold : ∀ q : Nat, q < T.heap.size → U.heap[q]? = T.heap[q]? := fun q hq => by
    rw [hkeep q T.heap[q] (Array.getElem?_eq_getElem hq), Array.getElem?_eq_getElem hq]
  have hsame2 : s.sameButNew ({ U with vm := s.vm } : State) (locs ++ []) (cells + (0 + 1)) (slots + (0 + 6)) := X.same.trans (by
    refine ⟨?_, hsame.2⟩
    have e1 := X.same.1
    have e2 := hsame.1
    refine e2.trans ?_
    rw [e1]
    show ({ s.setFrames U.frames with heap := U.heap, slotsUsed := U.slotsUsed } : State) = ({ (s.setFrames T.frames).setFrames U.frames with heap := U.heap, slotsUsed := U.slotsUsed } : State)
    rw [State.setFrames_setFrames])
  refine ⟨U, ?_, .threw T.heap.size, hrun, hend, hWU, ⟨Nat.le_trans hS.1 hsz, fun q h1 h2 => ?_⟩, ⟨fun kk q hq => ?_, hD⟩, ⟨locs, ?_, hS.2.2⟩, Or.inr ⟨by omega, T.heap.size, ce, rfl, hce, by rw [hOC.vm]; rfl, hOC.cls, hS.1⟩⟩
  · refine st1 _ ?_
    jvm_step X1.here [X1.here.top, hx, hb, d1]
    obtain ⟨g0, hg0⟩ := Option.isSome_iff_exists.mp X1.here.top
    exact ⟨_, State.topJava?_setTop _ hg0, _, _, rfl, rfl, st2 _ st3⟩
  · rw [hold q (Nat.lt_of_lt_of_le h1 hS.1)]; exact hS.2.1 q h1 h2
  · exact (hP kk q hq).kept (hold q.1 (hP kk q hq).lt)
  · rw [List.append_nil] at hsame2
    exact hsame2.mono (by omega) (by omega)
end
section
variable {p : Program} {l : Launch} {e : Env} {R : Room} {s : State} {m : MethodId} {args : Array Value} {below : List Frame} {meth : Method} {c : Code} {T : State} {locs : List Loc} {cells slots : Nat}
/-- a call comes back by an answer, or by a throw that is under way over the caller's frame -/
def hx_on (p : Program) (e : Env) (below : List Frame) (T0 T1 : State) (g : JFrame) (len : Nat) : Outcome → Prop
  | .returned v => Steps p.tables e below T0 (T1.setTop { g with pc := g.pc + len, stack := v.toList ++ g.stack })
  | .threw q => Steps p.tables e below T0 ((T1.setTop g).pushFrame (.throwing q))
theorem hx_call {y : MethodName} {S : Spec} {P : Array Value → State → Prop} {Q : Array Value → State → Outcome → State → Prop} {Z : List Loc → Nat → Nat → Prop} (hM : MetFree l y S P (fun _ _ _ _ _ => True) Q) (X : Stand p l e R s m args below meth c T locs cells slots)
    {g : JFrame} (hg : g.method = m) (hsize : g.locals.size = c.maxLocals) {ig : Instr} {len : Nat} (hdg : decode c.code g.pc = .ok (ig, len)) {mk : MethodId} (hn : T.methodNamed? y = some mk) {a : Array Value} {methY : Method} {cY : Code} (hmY : T.vm.method? mk = some methY) (hcY : methY.code = some cY)
    (hini : (Cond.initialized y.cls).before a T = true) (hpre : S.pre.before a T = true) (hP : P a (T.calling g mk a)) (hfr : S.room.frames + 1 ≤ R.frames) (hlo : 2 * g.monitorRoom + (g.stack.map fun v => v.category).sum + (cY.maxLocals + 11) + S.room.locals ≤ R.locals) (h4 : cells + S.room.cells ≤ R.cells) (h5 : slots + S.room.slots ≤ R.slots)
    (hQ : ∀ o t, Q a (T.calling g mk a) o t → (T.calling g mk a).WarmedH t.vm ∧ ∃ L k n, (T.calling g mk a).sameButNew ({ t with vm := (T.calling g mk a).vm } : State) L k n ∧ Z L k n) :
    ∃ (o : Outcome) (t T' : State) (L : List Loc) (k n : Nat), Q a (T.calling g mk a) o t ∧ Z L k n ∧ T'.heap = t.heap ∧ T'.vm = t.vm ∧ Stand p l e R s m args below meth c T' (locs ++ L) (cells + k) (slots + n) ∧ hx_on p e below (doInvoke e (T.setTop g) [] mk a).1 T' g len o := by
  subst hg
  obtain ⟨kY, hkY, -⟩ := className_of_methodNamed hn
  have hi : kY.init = .initialized := Cond.initialized_spec (findClass_of_methodNamed hn) hkY hini
  have hr0 := X.room_calling (g := g) (args' := a) (R' := S.room) hsize hmY hcY hfr (by omega) h4 h5
  have happ := Spec.appliesLoose_calling (g := g) X.here hdg hn hkY hi hr0 hpre
  obtain ⟨mid, hmid⟩ := X.here.above
  have hfrm : (T.setTop g).frames = (.java g :: mid) ++ below := by rw [State.frames_setTop' g X.here.top, hmid]; rfl
  obtain ⟨o, t, hst, -, hend, hq⟩ := Steps.callFree hM p X.admits X.cas X.clock (acts := []) hfrm happ hP trivial
  have hq1 : Q a (T.calling g mk a) o t := hq
  rw [State.frames_setTop' g X.here.top] at hend
  obtain ⟨hWm, L, k, n, hsame, hz⟩ := hQ o t hq1
  have hW1 : T.WarmedH t.vm := hWm
  obtain ⟨g0, hg0⟩ := Option.isSome_iff_exists.mp X.here.top
  obtain ⟨r, hr⟩ := State.topJava?_eq_some.mp hg0
  let T' : State := ({ T with heap := t.heap, slotsUsed := t.slotsUsed } : State).setVm t.vm
  have hr' : T'.frames = .java g0 :: r := hr
  have e3 : t = ({ (T.calling g mk a).setFrames t.frames with heap := t.heap, slotsUsed := t.slotsUsed } : State).setVm t.vm := by
    have h0 : t = ({ t with vm := (T.calling g mk a).vm } : State).setVm t.vm := rfl
    rw [hsame.1] at h0
    exact h0
  have hsame1 : T.sameButNew ({ T with heap := t.heap, slotsUsed := t.slotsUsed } : State) L k n := by
    refine ⟨?_, hsame.2⟩
    obtain ⟨th, hth, -⟩ := State.frames_cons hr
    show ({ T with heap := t.heap, slotsUsed := t.slotsUsed } : State) = { T.setFrames T.frames with heap := t.heap, slotsUsed := t.slotsUsed }
    rw [State.setFrames_self hth]
  refine ⟨o, t, T', L, k, n, hq1, hz, rfl, rfl, ⟨X.admits, X.cas, X.clock, X.frames, X.room, X.hears, X.method, X.code, (X.here.setHeapUsed t.heap t.slotsUsed).setVm hW1.alike, X.tail, State.WarmedH.trans X.warmed hW1, X.limits, X.bytes, X.same.trans (hsame1.setVm s.vm)⟩, ?_⟩
  cases o with
  | returned v =>
    obtain ⟨c2, i2, len2, hc2, hd2, hf2⟩ := hend
    have hcc : c2 = c := by
      have h1 : t.code? g.method = T.code? g.method := by rw [State.code?_eq, State.code?_eq, hW1.alike.method?]
      exact Option.some.inj (hc2.symm.trans (h1.trans X.here.code))
    subst hcc
    have hlen : len2 = len := by rw [hdg] at hd2; cases hd2; rfl
    subst hlen
    have ht : t = T'.setTop { g with pc := g.pc + len2, stack := v.toList ++ g.stack } := by
      refine e3.trans ?_
      rw [hf2, State.calling_eq X.here.top, State.setFrames_setFrames, State.setTop_of_frames _ hr', hr]
      rfl
    show Steps p.tables e below _ (T'.setTop _)
    rw [← ht]
    exact hst
  | threw q =>
    have hf2 : t.frames = .throwing q :: .java g :: T.frames.tail := hend
    have ht : t = (T'.setTop g).pushFrame (.throwing q) := by
      refine e3.trans ?_
      rw [hf2, State.calling_eq X.here.top, State.setFrames_setFrames, State.pushFrame, State.frames_setTop _ hr', State.setTop_of_frames _ hr', State.setFrames_setFrames, hr]
      rfl
    show Steps p.tables e below _ ((T'.setTop g).pushFrame (.throwing q))
    rw [← ht]
    exact hst
end
section
variable {tb : Tables} {p : Program} {l : Launch} {e : Env} {R : Room} {s : State} {m : MethodId} {args : Array Value} {below : List Frame} {meth : Method} {c : Code} {T : State} {locs : List Loc} {cells slots : Nat} {f g : JFrame} {a : Nat}
/-- what the search for a handler gives, and the tables that it leaves -/
def hx_F (e : Env) (s : State) (f : JFrame) (a : Nat) (h : Handler) (vm' : Vm) : Prop := ∀ (Q : Handler → Pre) (E : CtlPost) (d : Bool) (acts : List Action), wp (findHandler f a) Q E e d acts s ↔ Q h d acts (s.setVm vm')
theorem hx_go {E : CtlPost} {d : Bool} {acts : List Action} {Q : Handler → Pre} {x : ExceptionTableEntry} {t : List ExceptionTableEntry} {k : ClassId} {cell : Cell} {vm' : Vm} (hx : covers x f.pc = true) (h0 : x.catchType ≠ 0)
    (hg : (Jvm.resolveClass f.method.cls x.catchType).Gives e.toSetting s.vm (.ok k) vm') (hsz : vm'.classes.size ≤ s.vm.classes.size) (hcell : s.heap[a]? = some cell) (hobj : ∀ k, cell.vm ≠ .statics k)
    (hk : ∃ k, vm'.classes[cell.cls]? = some k) (hc : ∃ q, vm'.classes[k]? = some q) :
    wp (findHandler.go f a (x :: t)) Q E e d acts s ↔
      if vm'.assignable cell.cls k = true then Q (.found x.handlerPc) d acts (s.setVm vm') else wp (findHandler.go f a t) Q E e d acts (s.setVm vm') := by
  simp only [covers] at hx
  obtain ⟨ha, ht⟩ := hg.op (op := VmOp.resolveClass f.method.cls x.catchType) rfl
  have hcell' : (s.setVm vm').heap[a]? = some cell := hcell
  cases hfit : vm'.assignable cell.cls k <;>
    simp [findHandler.go, hx, h0, ha, ht, hsz, hcell, hobj, hk, hc, hfit, VmOp.dirties, VmOp.acts]
theorem hx_caught (h : At s g.method c below) {pc : Nat} {vm' : Vm} {target : State} (hfind : hx_F e ((s.setTop g).pushFrame (.throwing a)) g a (.found pc) vm')
    (hrest : Steps tb e below ((s.setVm vm').setTop { g with pc := pc, stack := [.ref a] }) target) :
    Steps tb e below ((s.setTop g).pushFrame (.throwing a)) target := by
  obtain ⟨hgo, hw⟩ := h.throwing a
  refine Steps.head hgo hw ?_
  obtain ⟨g0, hg0⟩ := Option.isSome_iff_exists.mp h.top
  obtain ⟨r, hr⟩ := State.topJava?_eq_some.mp hg0
  have hone : (stepThrowing e ((s.setTop g).pushFrame (.throwing a)) a (.java g :: s.frames.tail)).Is ((((s.setTop g).pushFrame (.throwing a)).setVm vm').setFrames (.java { g with pc := pc, stack := [.ref a] } :: s.frames.tail)) [] := by
    simp only [stepThrowing, searchFrame, vmDo]
    generalize hres : Sem.go _ e false [] ((s.setTop g).pushFrame (.throwing a)) = res
    obtain ⟨as, rfl, hacts⟩ := Sem.eq_ok_of hres (a := Handler.found pc) (s' := ((s.setTop g).pushFrame (.throwing a)).setVm vm') (acts' := []) (by simp [hfind _ _ _ _])
    exact ⟨rfl, hacts⟩
  rw [stepThread_throwing (frames_entered h.top _), hone.1]
  have hr' : (s.setVm vm').frames = .java g0 :: r := hr
  rw [State.setTop_of_frames _ hr'] at hrest
  have e1 : (((s.setTop g).pushFrame (.throwing a)).setVm vm').setFrames (.java { g with pc := pc, stack := [.ref a] } :: s.frames.tail) = (s.setVm vm').setFrames (.java { g with pc := pc, stack := [.ref a] } :: r) := by
    rw [State.pushFrame, State.setTop_of_frames _ hr, State.setFrames_setFrames, hr]
    show ((s.setVm vm').setFrames _).setFrames _ = _
    rw [State.setFrames_setFrames]
    rfl
  rw [e1]
  exact hrest
end
section
variable {tb : Tables} {p : Program} {l : Launch} {e : Env} {R : Room} {s : State} {m : MethodId} {args : Array Value} {below : List Frame} {meth : Method} {c : Code} {T : State} {locs : List Loc} {cells slots : Nat} {f g : JFrame} {q : Nat}
theorem hx_not {a b : String} {A : Array Value} {U : State} {x y : ClassId} (h : (Cond.not (.castable a b)).before A U = true) (ha : U.vm.findClass a = some x) (hb : U.vm.findClass b = some y) : U.vm.assignable x y = false := by
  simpa [Cond.before, Cond.holds, Cond.value, ha, hb] using h
/-- caught by the first entry of the table -/
theorem hx_catch1 (X : Stand p l e R s m args below meth c T locs cells slots) {own E F : String} {t1 a1 b1 h1 : Nat} {ts : List ExceptionTableEntry} (hown : s.vm.findClass own = some m.cls) (hl : (Cond.classLink own t1 F).before args s = true) (hca : (Cond.castable E F).before args s = true) (hg : g.method = m)
    (htab : c.exceptionTable.toList = ⟨a1, b1, h1, t1⟩ :: ts) (hcov : covers ⟨a1, b1, h1, t1⟩ g.pc = true) (h0 : t1 ≠ 0) {cell : Cell} (hcell : T.heap[q]? = some cell) (hob : cell.vm.isStatics = false) (hE : s.vm.findClass E = some cell.cls) :
    ∃ vm' : Vm, Stand p l e R s m args below meth c (T.setVm vm') locs cells slots ∧ ∀ target, Steps p.tables e below ((T.setVm vm').setTop { g with pc := h1, stack := [.ref q] }) target → Steps p.tables e below ((T.setTop g).pushFrame (.throwing q)) target := by
  subst hg
  have hpl : e.platform.magicAccessors = ({} : Platform).magicAccessors := by rw [X.admits.platform]
  obtain ⟨cF, hcF, hcl⟩ := Cond.classLink_spec hown hl e.platform hpl
  obtain ⟨hg1, hw1, hr1⟩ := State.classEntry (e := e) X.warmed hcl
  generalize T.vm.noted g.method.cls t1 (.cls cF) = vm1 at hg1 hw1 hr1
  obtain ⟨x1, x2, hx1, hx2, hasg⟩ := Cond.castable_spec hca
  cases Option.some.inj (hx1.symm.trans hE)
  cases Option.some.inj (hx2.symm.trans hcF)
  obtain ⟨kE, hkE⟩ := Vm.classAt_of_findClass hE
  obtain ⟨kF, hkF⟩ := Vm.classAt_of_findClass hcF
  obtain ⟨kE1, hkE1, -⟩ := hw1.alike.2.2 _ _ hkE
  obtain ⟨kF1, hkF1, -⟩ := hw1.alike.2.2 _ _ hkF
  refine ⟨vm1, X.noted hw1, fun target hrest => hx_caught X.here (pc := h1) (vm' := vm1) (fun Q E d acts => ?_) hrest⟩
  have hm : ((T.setTop g).pushFrame (.throwing q)).vm.method? g.method = some meth := by rw [throwing_vm]; exact X.method'
  rw [W.findHandler_eq hm X.code, htab, hx_go (k := cF) (cell := cell) (vm' := vm1) hcov h0 (by rw [throwing_vm]; exact hg1) (by rw [throwing_vm, hw1.2.1, X.warmed.2.1]; exact Nat.le_refl _) (by rw [throwing_heap]; exact hcell) (VmData.ne_statics_of hob) ⟨_, hkE1⟩ ⟨_, hkF1⟩, if_pos (by rw [hw1.alike.assignable]; exact hasg)]
/-- caught by the second entry, passed by the first -/
theorem hx_catch2 (X : Stand p l e R s m args below meth c T locs cells slots) {own E F F2 : String} {t1 a1 b1 h1 t2 a2 b2 h2 : Nat} {ts : List ExceptionTableEntry} (hown : s.vm.findClass own = some m.cls) (hl : (Cond.classLink own t1 F).before args s = true) (hl2 : (Cond.classLink own t2 F2).before args s = true) (hnc : (Cond.not (.castable E F)).before args s = true) (hca : (Cond.castable E F2).before args s = true) (hg : g.method = m)
    (htab : c.exceptionTable.toList = ⟨a1, b1, h1, t1⟩ :: ⟨a2, b2, h2, t2⟩ :: ts) (hcov : covers ⟨a1, b1, h1, t1⟩ g.pc = true) (h0 : t1 ≠ 0) (hcov2 : covers ⟨a2, b2, h2, t2⟩ g.pc = true) (h02 : t2 ≠ 0) {cell : Cell} (hcell : T.heap[q]? = some cell) (hob : cell.vm.isStatics = false) (hE : s.vm.findClass E = some cell.cls) :
    ∃ vm' : Vm, Stand p l e R s m args below meth c (T.setVm vm') locs cells slots ∧ ∀ target, Steps p.tables e below ((T.setVm vm').setTop { g with pc := h2, stack := [.ref q] }) target → Steps p.tables e below ((T.setTop g).pushFrame (.throwing q)) target := by
  subst hg
  have hpl : e.platform.magicAccessors = ({} : Platform).magicAccessors := by rw [X.admits.platform]
  obtain ⟨cF, hcF, hcl⟩ := Cond.classLink_spec hown hl e.platform hpl
  obtain ⟨hg1, hw1, hr1⟩ := State.classEntry (e := e) X.warmed hcl
  generalize T.vm.noted g.method.cls t1 (.cls cF) = vm1 at hg1 hw1 hr1
  obtain ⟨cF2, hcF2, hcl2⟩ := Cond.classLink_spec hown hl2 e.platform hpl
  obtain ⟨hg2, hw2, hr2⟩ := State.classEntry (e := e) hw1 hcl2
  generalize vm1.noted g.method.cls t2 (.cls cF2) = vm2 at hg2 hw2 hr2
  obtain ⟨x1, x2, hx1, hx2, hasg⟩ := Cond.castable_spec hca
  cases Option.some.inj (hx1.symm.trans hE)
  cases Option.some.inj (hx2.symm.trans hcF2)
  have hno := hx_not hnc hE hcF
  obtain ⟨kE, hkE⟩ := Vm.classAt_of_findClass hE
  obtain ⟨kF, hkF⟩ := Vm.classAt_of_findClass hcF
  obtain ⟨kF2, hkF2⟩ := Vm.classAt_of_findClass hcF2
  obtain ⟨kE1, hkE1, -⟩ := hw1.alike.2.2 _ _ hkE
  obtain ⟨kF1, hkF1, -⟩ := hw1.alike.2.2 _ _ hkF
  obtain ⟨kE2, hkE2, -⟩ := hw2.alike.2.2 _ _ hkE
  obtain ⟨kG2, hkG2, -⟩ := hw2.alike.2.2 _ _ hkF2
  refine ⟨vm2, X.noted hw2, fun target hrest => hx_caught X.here (pc := h2) (vm' := vm2) (fun Q E d acts => ?_) hrest⟩
  have hm : ((T.setTop g).pushFrame (.throwing q)).vm.method? g.method = some meth := by rw [throwing_vm]; exact X.method'
  rw [W.findHandler_eq hm X.code, htab, hx_go (k := cF) (cell := cell) (vm' := vm1) hcov h0 (by rw [throwing_vm]; exact hg1) (by rw [throwing_vm, hw1.2.1, X.warmed.2.1]; exact Nat.le_refl _) (by rw [throwing_heap]; exact hcell) (VmData.ne_statics_of hob) ⟨_, hkE1⟩ ⟨_, hkF1⟩, if_neg (by rw [hw1.alike.assignable, hno]; decide)]
  rw [hx_go (k := cF2) (cell := cell) (vm' := vm2) hcov2 h02 hg2 (by show vm2.classes.size ≤ vm1.classes.size; rw [hw2.2.1, hw1.2.1]; exact Nat.le_refl _) (by show ((T.setTop g).pushFrame (.throwing q)).heap[q]? = _; rw [throwing_heap]; exact hcell) (VmData.ne_statics_of hob) ⟨_, hkE2⟩ ⟨_, hkG2⟩, if_pos (by rw [hw2.alike.assignable]; exact hasg)]
  rfl
end
