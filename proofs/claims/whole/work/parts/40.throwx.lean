/-! contracts of methods that may throw, and of callers that catch -/
abbrev hx_Pre (D : va_G) (cl : List vw_C) (tys : List (ClassId × FieldType)) (w : va_W) (sz : Nat) : State → Prop := fun U => hw_Pre D cl tys w sz U ∧ hy U
/-- a method that may throw: k = 0: it answers rv, its cells are w1; else it throws an object of the class en k, its cells are w1 -/
def MetX (l : Launch) (y : MethodName) (ws : List Cond) (rm : Room) (D : va_G) (cl : List vw_C) (tys : List (ClassId × FieldType)) (av : List Value) (w : va_W) (k : Nat) (rv : Option Value) (w1 : va_W) : Prop :=
  ∀ sz : Nat, MetFree l y (headSpec ws rm) (va_Pc av (hx_Pre D cl tys w sz)) (fun _ _ _ _ _ => True) (hx_Q D cl tys k rv w1 (va_A w sz))
/-- a method that catches: it answers rv, its cells are w1; at most one new cell of 6 slots -/
def MetH (l : Launch) (y : MethodName) (ws : List Cond) (rm : Room) (D : va_G) (cl : List vw_C) (tys : List (ClassId × FieldType)) (av : List Value) (w : va_W) (rv : Int32) (w1 : va_W) : Prop :=
  ∀ sz : Nat, Met l y ws rm (va_Pc av (hx_Pre D cl tys w sz)) (va_Qi (fun r (_ : Unit) => r = rv) (fun _ => hw_At D cl tys (va_A w sz) w1) (va_A w sz)) 1 6 (va_A w sz)
theorem hx_nost {D : va_G} {cl : List vw_C} {w : va_W} {H : Heap} (hP : va_P D cl w H) : ∀ (q : Nat) (cell : Cell), va_A w H.size q → H[q]? = some cell → cell.vm.isStatics = false := by
  intro q cell hA hc
  rcases hA with ⟨k, e, h⟩ | h
  · have h1 := hP k _ h
    cases e with
    | inl a =>
      have h2 : H[q]? = some (vp_cell a.1 a.2) := h1
      cases Option.some.inj (hc.symm.trans h2)
      obtain ⟨a1, a2, a3⟩ := a
      rcases a3 with f | f | f | f | f <;> rfl
    | inr o =>
      obtain ⟨r, -, ce, g1, g2, g3, -⟩ := h1
      cases Option.some.inj (hc.symm.trans g1)
      rw [g3]; rfl
  · have := (Array.getElem?_eq_some_iff.mp hc).1
    omega
section
variable {l : Launch} {y : MethodName} {ws ws' : List Cond} {rm : Room} {D : va_G} {cl : List vw_C} {tys : List (ClassId × FieldType)} {av : List Value} {w w1 : va_W} {k : Nat} {rv : Option Value} {rvi : Int32} {cc : ByteArray} {maxL : Nat} {ret : Option FieldType}
theorem MetX.ofW (hp : plainName y.cls = true) (hw : ws = Cond.code y cc maxL ret :: ws')
    (body : ∀ (sz : Nat) p e s m args below meth c s₁, BodyLoose p l y (headSpec ws rm) cc maxL ret e s m args below meth c s₁ → c.maxLocals = maxL → c.exceptionTable.isEmpty = true → va_Pc av (hx_Pre D cl tys w sz) args s →
      W p l e (headSpec ws rm).room s m args below meth c s.heap [] 0 0 (XQ below (hx_Q D cl tys k rv w1 (va_A w sz)) args s) (entryFrame m args maxL)) : MetX l y ws rm D cl tys av w k rv w1 := by
  intro sz
  refine MetFree.of_bodyS (code := cc) (maxLocals := maxL) (ret := ret) hp ?_ ?_
  · intro args s m h hn
    obtain ⟨meth, c, h1, h2, h3, h4, h5, h6, -, -⟩ := Cond.code_spec hn (atoms_spec (ws := ws) h _ (by rw [hw]; exact List.mem_cons_self))
    exact ⟨meth, c, h1, h2, h3, h4, h5, h6⟩
  · intro p e s m args below meth c s₁ B hml hP _
    have hh0 : s₁.heap = s.heap := by rw [B.state]; rfl
    have X := Stand.of_body B
    obtain ⟨meth', c', h1, h2, -, -, -, -, h7, -⟩ := Cond.code_spec B.named (atoms_spec (ws := ws) B.pre _ (by rw [hw]; exact List.mem_cons_self))
    cases Option.some.inj (h1.symm.trans X.method)
    cases Option.some.inj (h2.symm.trans X.code)
    obtain ⟨t, a1, o, b1, b2, b3⟩ := body sz p e s m args below meth _ s₁ B hml h7 hP s₁ hh0 X
    exact ⟨t, o, a1, b1, b2, b3⟩
theorem MetH.ofW {hs : List (Nat × Nat × Nat × Nat)} (hp : plainName y.cls = true) (hw : ws = Cond.codeWith y cc maxL ret hs :: ws')
    (body : ∀ (sz : Nat) p e s m args below meth c s₁, BodyLoose p l y (headSpec ws rm) cc maxL ret e s m args below meth c s₁ → c.maxLocals = maxL → c.exceptionTable.toList.map (fun h => (h.startPc, h.endPc, h.handlerPc, h.catchType)) = hs → va_Pc av (hx_Pre D cl tys w sz) args s →
      W p l e (headSpec ws rm).room s m args below meth c s.heap [] 0 0 (MQ below (va_Qi (fun r (_ : Unit) => r = rvi) (fun _ => hw_At D cl tys (va_A w sz) w1) (va_A w sz)) args s 1 6 (va_A w sz)) (entryFrame m args maxL)) : MetH l y ws rm D cl tys av w rvi w1 := by
  intro sz
  refine MetFree.of_bodyS (code := cc) (maxLocals := maxL) (ret := ret) hp ?_ ?_
  · intro args s m h hn
    obtain ⟨m', meth, c, h0, h1, h2, h3, h4, -, h5, h6, -⟩ := Cond.codeWith_spec (atoms_spec (ws := ws) h _ (by rw [hw]; exact List.mem_cons_self))
    cases Option.some.inj (hn.symm.trans h0)
    exact ⟨meth, c, h1, h2, h3, h4, h5, h6⟩
  · intro p e s m args below meth c s₁ B hml hP _
    have hh0 : s₁.heap = s.heap := by rw [B.state]; rfl
    have X := Stand.of_body B
    obtain ⟨m', meth', c', h0, h1, h2, -, -, h7, -⟩ := Cond.codeWith_spec (atoms_spec (ws := ws) B.pre _ (by rw [hw]; exact List.mem_cons_self))
    cases Option.some.inj (B.named.symm.trans h0)
    cases Option.some.inj (h1.symm.trans X.method)
    cases Option.some.inj (h2.symm.trans X.code)
    obtain ⟨t, a1, o, b1, b2, b3⟩ := body sz p e s m args below meth _ s₁ B hml h7 hP s₁ hh0 X
    exact ⟨t, o, a1, b1, b2, ⟨b3.1, b3.2⟩⟩
end
section
variable {p : Program} {l : Launch} {e : Env} {R : Room} {s : State} {m : MethodId} {args : Array Value} {below : List Frame} {meth : Method} {c : Code} {H H0 : Heap} {locs : List Loc} {cells slots : Nat} {Q : State → Prop} {y : MethodName} {bytes cc : ByteArray} {maxL nL n index pc : Nat} {ret : Option FieldType} {rm : Room} {own C : String} {T : u_T} {N : Nat} {b : Addr} {As rest st0 : List Value} {ls : Array Slot} {D : va_G} {cl : List vw_C} {tys : List (ClassId × FieldType)} {w wc wr w1 : va_W} {rv : Option Value} {rvi : Int32} {fs : List Value} {A0 : Nat → Prop} {k : Nat}
def hx_R (D : va_G) (cl : List vw_C) (tys : List (ClassId × FieldType)) (rv : Option Value) (w1 : va_W) (A : Nat → Prop) : Array Value → State → Outcome → State → Prop := fun _ st o t => o = .returned rv ∧ hw_At D cl tys A w1 t ∧ va_F A st t
theorem hx_ret {g : JFrame} (hk : k = 0) (hc : cells ≤ 1) (hs : slots ≤ 6) (h : W p l e R s m args below meth c H locs cells slots (MQ below (hx_R D cl tys rv w1 A0) args s cells slots A0) g) : W p l e R s m args below meth c H locs cells slots (XQ below (hx_Q D cl tys k rv w1 A0) args s) g := by
  refine W.weak ?_ h
  rintro t ⟨o, h1, h2, ⟨h3, h4, h5⟩, L, ⟨-, h6, h7⟩, h8⟩
  exact ⟨o, h1, h2, h6, h5, h4, ⟨L, h7.mono hc hs, h8⟩, Or.inl ⟨hk, h3⟩⟩
/-- a throw is under way over the frame g -/
def WT (p : Program) (l : Launch) (e : Env) (R : Room) (s : State) (m : MethodId) (args : Array Value) (below : List Frame) (meth : Method) (c : Code) (H : Heap) (locs : List Loc) (cells slots : Nat) (Q : State → Prop) (q : Nat) (g : JFrame) : Prop :=
  ∀ T : State, T.heap = H → Stand p l e R s m args below meth c T locs cells slots → ∃ t, Steps p.tables e below ((T.setTop g).pushFrame (.throwing q)) t ∧ Q t
theorem WT.c1 {E : String} {t1 a1 b1 h1 q : Nat} {ts : List (Nat × Nat × Nat × Nat)} (htab : c.exceptionTable.toList.map (fun h => (h.startPc, h.endPc, h.handlerPc, h.catchType)) = (a1, b1, h1, t1) :: ts) (hown : s.vm.findClass own = some m.cls) (hl : (Cond.classLink own t1 E).before args s = true) (hca : (Cond.castable E E).before args s = true)
    (hcov : (decide (a1 ≤ pc) && decide (pc < b1)) = true) (h0 : t1 ≠ 0) (hob : ∃ cell : Cell, H[q]? = some cell ∧ cell.vm.isStatics = false ∧ s.vm.findClass E = some cell.cls) (kk : W p l e R s m args below meth c H locs cells slots Q (F0 m h1 ls [.ref q])) : WT p l e R s m args below meth c H locs cells slots Q q (F0 m pc ls rest) := by
  intro T hT X
  obtain ⟨cell, o1, o2, o3⟩ := hob
  obtain ⟨x, xs, hx1, hx2, hx3⟩ : ∃ x xs, c.exceptionTable.toList = x :: xs ∧ (x.startPc, x.endPc, x.handlerPc, x.catchType) = (a1, b1, h1, t1) ∧ xs.map (fun h => (h.startPc, h.endPc, h.handlerPc, h.catchType)) = ts := by
    cases hl2 : c.exceptionTable.toList with
    | nil => rw [hl2] at htab; cases htab
    | cons x xs => rw [hl2] at htab; injection htab with g1 g2; exact ⟨x, xs, rfl, g1, g2⟩
  obtain ⟨v1, v2, v3, v4⟩ := x
  cases hx2
  obtain ⟨vm', X', st⟩ := hx_catch1 X (E := E) (F := E) hown hl hca (g := F0 m pc ls rest) rfl hx1 hcov h0 (by rw [hT]; exact o1) o2 o3
  obtain ⟨t, g1, g2⟩ := kk (T.setVm vm') hT X'
  exact ⟨t, st t g1, g2⟩
theorem WT.c2 {E F : String} {t1 a1 b1 h1 t2 a2 b2 h2 q : Nat} {ts : List (Nat × Nat × Nat × Nat)} (htab : c.exceptionTable.toList.map (fun h => (h.startPc, h.endPc, h.handlerPc, h.catchType)) = (a1, b1, h1, t1) :: (a2, b2, h2, t2) :: ts) (hown : s.vm.findClass own = some m.cls) (hl : (Cond.classLink own t1 F).before args s = true) (hl2 : (Cond.classLink own t2 E).before args s = true) (hnc : (Cond.not (.castable E F)).before args s = true) (hca : (Cond.castable E E).before args s = true)
    (hcov : (decide (a1 ≤ pc) && decide (pc < b1)) = true) (h0 : t1 ≠ 0) (hcov2 : (decide (a2 ≤ pc) && decide (pc < b2)) = true) (h02 : t2 ≠ 0) (hob : ∃ cell : Cell, H[q]? = some cell ∧ cell.vm.isStatics = false ∧ s.vm.findClass E = some cell.cls) (kk : W p l e R s m args below meth c H locs cells slots Q (F0 m h2 ls [.ref q])) : WT p l e R s m args below meth c H locs cells slots Q q (F0 m pc ls rest) := by
  intro T hT X
  obtain ⟨cell, o1, o2, o3⟩ := hob
  obtain ⟨x, x', xs, hx1, hx2, hx3⟩ : ∃ x x' xs, c.exceptionTable.toList = x :: x' :: xs ∧ (x.startPc, x.endPc, x.handlerPc, x.catchType) = (a1, b1, h1, t1) ∧ (x'.startPc, x'.endPc, x'.handlerPc, x'.catchType) = (a2, b2, h2, t2) := by
    cases hl2 : c.exceptionTable.toList with
    | nil => rw [hl2] at htab; cases htab
    | cons x xs =>
      rw [hl2] at htab; injection htab with g1 g2
      cases xs with
      | nil => cases g2
      | cons x' xs => injection g2 with g3 g4; exact ⟨x, x', xs, rfl, g1, g3⟩
  obtain ⟨v1, v2, v3, v4⟩ := x
  obtain ⟨u1, u2, u3, u4⟩ := x'
  cases hx2
  cases hx3
  obtain ⟨vm', X', st⟩ := hx_catch2 X (E := E) (F := F) (F2 := E) hown hl hl2 hnc hca (g := F0 m pc ls rest) rfl hx1 hcov h0 hcov2 h02 (by rw [hT]; exact o1) o2 o3
  obtain ⟨t, g1, g2⟩ := kk (T.setVm vm') hT X'
  exact ⟨t, st t g1, g2⟩
theorem hx_calling {U : State} {g : JFrame} {mk : MethodId} {a : Array Value} (h : hy U) : hy (U.calling g mk a) := hy.move (s := U) (U := U.calling g mk a) (State.WarmedH.refl U) (fun q cell h _ => h) h
theorem hx_blind {av : List Value} {sz : Nat} : FrameBlind (va_Pc av (hx_Pre D cl tys w sz)) := fun a U g mk q => by
  obtain ⟨q0, q1, q2⟩ := q
  obtain ⟨r0, r1⟩ := hw_blind (D := D) (cl := cl) (tys := tys) (w := w) (av := av) (sz := sz) a U g mk ⟨q0, q1⟩
  exact ⟨r0, r1, hx_calling q2⟩
/-- a call of a method that may throw -/
theorem hx_callV (S : CallFix p m c cc nL s args base own) (hM : MetX l y (Cond.code y bytes maxL ret :: base) rm D cl tys (.ref b :: As) wc k rv w1) (hcd : Cond.code y bytes maxL ret ∈ base) (hini : Cond.initialized y.cls ∈ base) (hlk : Cond.methodLink own index y ∈ base) (hin : Cond.instanceMethod y ∈ base) (hsel : (Cond.selects C y y).before args s = true)
    (hd : y.cls ≠ "java/lang/invoke/MethodHandle" ∧ y.cls ≠ "java/lang/invoke/VarHandle" ∧ (parseMethodDescriptor y.desc).map (fun d => d.parameters.length) = some n) (hR : rm.frames + 1 ≤ R.frames ∧ 8 + (maxL + 11) + rm.locals ≤ R.locals) (hrc : rm.cells = 1) (hrs : rm.slots = 6)
    (hK : va_K D cl tys s) (hZ : hz s) (hY : hy s) (hst : ∀ (q : Nat) (cell : Cell), A0 q → s.heap[q]? = some cell → cell.vm.isStatics = false) (hP : va_P D cl w H) (hD : va_D A0 w) (hS : va_S A0 s.heap H locs) (hA : ∀ q, s.heap.size ≤ q → A0 q) (isC isR : List Nat) (hC : isC.map (fun i => w[i]?) = wc.map some) (hRr : isR.map (fun i => w[i]?) = wr.map some) (hnC : va_nd isC = true) (hnR : va_nd isR = true) (hdis : ∀ i ∈ isR, i ∉ isC)
    (q0 ci : Nat) (hc : cl[ci]? = some (C, T, N)) (he : w[q0]? = some (b, .inr (ci, fs))) (hn : As.length = n) (hsize : ls.size = nL) (hst0 : st0 = As.reverse ++ .ref b :: rest) (hW : 2 * (F0 m pc ls st0).monitorRoom + (rest.map fun v => v.category).sum ≤ 8) (hdg : decode cc pc = .ok (.invokevirtual index, 3)) (hf : cells + 1 ≤ R.cells ∧ slots + 6 ≤ R.slots)
    (kk : k = 0 → ∀ (H1 : Heap) (locs1 : List Loc), va_P D cl (wr ++ w1) H1 → va_D A0 (wr ++ w1) → va_S A0 s.heap H1 locs1 → W p l e R s m args below meth c H1 locs1 (cells + 1) (slots + 6) Q (F0 m (pc + 3) ls (rv.toList ++ rest)))
    (kt : k ≠ 0 → ∀ (H1 : Heap) (locs1 : List Loc) (q : Nat), va_P D cl (wr ++ w1) H1 → va_D A0 (wr ++ w1) → va_S A0 s.heap H1 locs1 → (∃ cell : Cell, H1[q]? = some cell ∧ cell.vm.isStatics = false ∧ s.vm.findClass (en k) = some cell.cls) → WT p l e R s m args below meth c H1 locs1 (cells + 1) (slots + 6) Q q (F0 m pc ls rest)) : W p l e R s m args below meth c H locs cells slots Q (F0 m pc ls st0) := by
  subst hst0
  obtain ⟨hx, hb, hml, hown, hts⟩ := S
  obtain ⟨hd1, hd2, hd3⟩ := hd
  intro T' hT X
  subst hT
  have hcode := hts _ hcd
  obtain ⟨mk, methM, hnamed, hmethM, hstM, habM⟩ := Cond.instanceMethod_spec (hts _ hin)
  obtain ⟨methM', cM, hmethM', hcM, -, hlM, -, -, -, hsigM⟩ := Cond.code_spec hnamed hcode
  cases hmethM.symm.trans hmethM'
  obtain ⟨cellB, hcB, hoB, hclB⟩ := va_recv hK hP hc he
  obtain ⟨c2, r2, m2, q1, q2, q3, q4, kP, hkP, hkPi⟩ := Cond.selects_spec hsel
  cases hclB.symm.trans q1
  cases (State.methodFound?_of_named hnamed ⟨hd1, hd2⟩).symm.trans q2
  cases hnamed.symm.trans q3
  have hselP : selectMethod e.platform s.vm cellB.cls mk = .method mk := by rw [Launch.admits_selectMethod X.admits]; exact q4
  have hlen : As.length = methM.sig.parameters.length := by
    rw [hn]; rw [hsigM] at hd3; exact (Option.some.inj hd3).symm
  obtain ⟨vm₁, X₁, hstep₁⟩ := X.invokevirtual hx hown (hts _ hlk) hnamed hmethM hstM hkP hkPi ⟨hd1, hd2⟩ (a := b) (cell := cellB) hcB
    (fun z h => by rw [h] at hoB; cases hoB) hselP hmethM habM hkP hkPi (g := F0 m pc ls (As.reverse ++ .ref b :: rest)) rfl (argsL := As) (rest := rest) hlen rfl (by rw [hb]; exact hdg)
  have hmY : (T'.setVm vm₁).vm.method? mk = some methM := by
    rw [X₁.warmed.alike.method?]; exact hmethM
  have hFc := va_free (wc := wc) hD hS hA isC hC
  have hDc := hD.sub (ws' := wc) isC hnC hC
  have hgood : ∀ w ∈ (Cond.code y bytes maxL ret :: base), w.before (Value.ref b :: As).toArray (T'.setVm vm₁) = true := fun w hw => by
    have hw' : w ∈ base := by
      rcases List.mem_cons.mp hw with rfl | hw
      · exact hcd
      · exact hw
    exact word_at X₁.warmed (good_of_word (List.mem_filter.mp hw').2) (hts w hw')
  have hY1 : hy (T'.setVm vm₁) := hy.move X₁.warmed (fun q cell h1 h2 => by
    have hlt := (Array.getElem?_eq_some_iff.mp h1).1
    have hnA : ¬ A0 q := fun h => by rw [hst q cell h h1] at h2; cases h2
    show T'.heap[q]? = some cell
    rw [hS.2.1 q hlt hnA]; exact h1) hY
  obtain ⟨o, t, T2, L, k2, n2, hq, ⟨hL, hk2, hn2⟩, e1, e2, X2, hon⟩ := hx_call (Z := fun L k n => (∀ x ∈ L, va_A wc T'.heap.size x.base) ∧ k = 1 ∧ n = 6) (hM T'.heap.size) X₁ (g := F0 m pc ls rest) rfl (by rw [hml]; exact hsize) (by rw [hb]; exact hdg) (X₁.named hnamed) (a := (Value.ref b :: As).toArray) hmY hcM
    (word_at X₁.warmed (good_of_word (List.mem_filter.mp hini).2) (hts _ hini)) (atoms_intro hgood)
    (hx_blind _ _ _ _ ⟨rfl, ⟨rfl, hP.sub isC (hw_fm hC), va_K.moved (u := s) X₁.warmed.alike hK, hZ.warm X₁.warmed, hDc.weaken (fun _ _ _ _ => trivial)⟩, hY1⟩)
    hR.1 (by rw [hlM]; show 2 * 0 + (rest.map fun v => v.category).sum + (maxL + 11) + rm.locals ≤ R.locals; have h8 : 2 * 0 + (rest.map fun v => v.category).sum ≤ 8 := hW; omega) (by show cells + rm.cells ≤ _; omega) (by show slots + rm.slots ≤ _; omega)
    (fun o t hq => ⟨hq.1, by obtain ⟨L, h1, h2⟩ := hq.2.2.2.1; exact ⟨L, 1, 6, h1, h2, rfl, rfl⟩⟩)
  subst hk2; subst hn2
  obtain ⟨q1, q2, ⟨q3, q3'⟩, -, q5⟩ := hq
  have hz1 : T'.heap.size ≤ t.heap.size := q2.1
  have hk1 : ∀ q : Nat, q < T'.heap.size → ¬ va_A wc T'.heap.size q → t.heap[q]? = T'.heap[q]? := q2.2
  obtain ⟨hP2, hD2⟩ := va_join (wr := wr) (w1 := w1) hP hD isC isR hC hRr hnR hdis hk1 hFc q3 q3'
  have hS2 : va_S A0 s.heap t.heap (locs ++ L) := ⟨Nat.le_trans hS.1 hz1, fun q h1 h2 => by
      rw [hk1 q (Nat.lt_of_lt_of_le h1 hS.1) (fun h => h2 (hFc q h))]; exact hS.2.1 q h1 h2, fun x hx' => by
      rcases List.mem_append.mp hx' with h | h
      · exact hS.2.2 x h
      · exact hFc _ (hL x h)⟩
  rcases q5 with ⟨hk0, rfl⟩ | ⟨hk0, q, cell, rfl, c1, c2, c3, c4⟩
  · obtain ⟨t2, g1, g2⟩ := kk hk0 t.heap (locs ++ L) hP2 hD2 hS2 T2 e1 X2
    exact ⟨t2, hstep₁ _ fun acts => by rw [doInvoke_state]; exact hon.trans g1, g2⟩
  · have hcls : s.vm.findClass (en k) = some cell.cls := by
      have h9 : (T'.setVm vm₁).vm.findClass (en k) = some cell.cls := c3
      rw [X₁.warmed.alike.findClass] at h9; exact h9
    obtain ⟨t2, g1, g2⟩ := kt hk0 t.heap (locs ++ L) q hP2 hD2 hS2 ⟨cell, c1, c2, hcls⟩ T2 e1 X2
    exact ⟨t2, hstep₁ _ fun acts => by rw [doInvoke_state]; exact hon.trans g1, g2⟩
/-- a call of a method that catches -/
theorem hh_callS {hs : List (Nat × Nat × Nat × Nat)} (S : CallFix p m c cc nL s args base own) (hM : MetH l y (Cond.codeWith y bytes maxL ret hs :: base) rm D cl tys As wc rvi w1) (hcd : Cond.codeWith y bytes maxL ret hs ∈ base) (hini : Cond.initialized y.cls ∈ base) (hlk : Cond.methodLink own index y ∈ base) (hstt : Cond.static y ∈ base)
    (hd : y.cls ≠ "java/lang/invoke/MethodHandle" ∧ y.cls ≠ "java/lang/invoke/VarHandle" ∧ (parseMethodDescriptor y.desc).map (fun d => d.parameters.length) = some n) (hR : rm.frames + 1 ≤ R.frames ∧ 8 + (maxL + 11) + rm.locals ≤ R.locals) (hrc : rm.cells = 1) (hrs : rm.slots = 6)
    (hK : va_K D cl tys s) (hZ : hz s) (hY : hy s) (hst : ∀ (q : Nat) (cell : Cell), A0 q → s.heap[q]? = some cell → cell.vm.isStatics = false) (hP : va_P D cl w H) (hD : va_D A0 w) (hS : va_S A0 s.heap H locs) (hA : ∀ q, s.heap.size ≤ q → A0 q) (isC isR : List Nat) (hC : isC.map (fun i => w[i]?) = wc.map some) (hRr : isR.map (fun i => w[i]?) = wr.map some) (hnC : va_nd isC = true) (hnR : va_nd isR = true) (hdis : ∀ i ∈ isR, i ∉ isC)
    (hn : As.length = n) (hsize : ls.size = nL) (hst0 : st0 = As.reverse ++ rest) (hW : 2 * (F0 m pc ls st0).monitorRoom + (rest.map fun v => v.category).sum ≤ 8) (hdg : decode cc pc = .ok (.invokestatic index, 3)) (hf : cells + 1 ≤ R.cells ∧ slots + 6 ≤ R.slots)
    (kk : ∀ (H1 : Heap) (locs1 : List Loc), va_P D cl (wr ++ w1) H1 → va_D A0 (wr ++ w1) → va_S A0 s.heap H1 locs1 → W p l e R s m args below meth c H1 locs1 (cells + 1) (slots + 6) Q (F0 m (pc + 3) ls (.int rvi :: rest))) : W p l e R s m args below meth c H locs cells slots Q (F0 m pc ls st0) := by
  subst hst0
  obtain ⟨hx, hb, hml, hown, hts⟩ := S
  obtain ⟨hd1, hd2, hd3⟩ := hd
  intro T' hT X
  subst hT
  obtain ⟨mk, methM, cM, hnamed, hmethM, hcM, -, hlM, -, -, -, hsigM⟩ := Cond.codeWith_spec (hts _ hcd)
  have hstatic : methM.isStatic = true := Cond.static_spec hnamed hmethM (hts _ hstt)
  obtain ⟨kP, hkP, -⟩ := className_of_methodNamed hnamed
  have hinitP : kP.init = .initialized := Cond.initialized_spec (findClass_of_methodNamed hnamed) hkP (hts _ hini)
  have hlen : As.length = methM.sig.parameters.length := by
    rw [hn]; rw [hsigM] at hd3; exact (Option.some.inj hd3).symm
  obtain ⟨vm₁, X₁, hstep₁⟩ := X.invokestatic hx hown (hts _ hlk) hnamed hmethM hstatic hkP hinitP ⟨hd1, hd2⟩ (g := F0 m pc ls (As.reverse ++ rest)) rfl (argsL := As) (rest := rest) hlen rfl (by rw [hb]; exact hdg)
  have hmY : (T'.setVm vm₁).vm.method? mk = some methM := by
    rw [X₁.warmed.alike.method?]; exact hmethM
  have hFc := va_free (wc := wc) hD hS hA isC hC
  have hDc := hD.sub (ws' := wc) isC hnC hC
  have hgood : ∀ w ∈ (Cond.codeWith y bytes maxL ret hs :: base), w.before As.toArray (T'.setVm vm₁) = true := fun w hw => by
    have hw' : w ∈ base := by
      rcases List.mem_cons.mp hw with rfl | hw
      · exact hcd
      · exact hw
    exact word_at X₁.warmed (good_of_word (List.mem_filter.mp hw').2) (hts w hw')
  have hY1 : hy (T'.setVm vm₁) := hy.move X₁.warmed (fun q cell h1 h2 => by
    have hlt := (Array.getElem?_eq_some_iff.mp h1).1
    have hnA : ¬ A0 q := fun h => by rw [hst q cell h h1] at h2; cases h2
    show T'.heap[q]? = some cell
    rw [hS.2.1 q hlt hnA]; exact h1) hY
  obtain ⟨o, t, T2, L, k2, n2, hq, ⟨hL, hk2, hn2⟩, e1, e2, X2, hon⟩ := hx_call (Z := fun L k n => (∀ x ∈ L, va_A wc T'.heap.size x.base) ∧ k = 1 ∧ n = 6) (hM T'.heap.size) X₁ (g := F0 m pc ls rest) rfl (by rw [hml]; exact hsize) (by rw [hb]; exact hdg) (X₁.named hnamed) (a := As.toArray) hmY hcM
    (word_at X₁.warmed (good_of_word (List.mem_filter.mp hini).2) (hts _ hini)) (atoms_intro hgood)
    (hx_blind _ _ _ _ ⟨rfl, ⟨rfl, hP.sub isC (hw_fm hC), va_K.moved (u := s) X₁.warmed.alike hK, hZ.warm X₁.warmed, hDc.weaken (fun _ _ _ _ => trivial)⟩, hY1⟩)
    hR.1 (by rw [hlM]; show 2 * 0 + (rest.map fun v => v.category).sum + (maxL + 11) + rm.locals ≤ R.locals; have h8 : 2 * 0 + (rest.map fun v => v.category).sum ≤ 8 := hW; omega) (by show cells + rm.cells ≤ _; omega) (by show slots + rm.slots ≤ _; omega)
    (fun o t hq => ⟨by obtain ⟨-, L, h1, h2⟩ := hq; exact h1.2.1, by obtain ⟨-, L, h1, h2⟩ := hq; exact ⟨L, 1, 6, h1.2.2, h2, rfl, rfl⟩⟩)
  subst hk2; subst hn2
  obtain ⟨⟨⟨r, u, rfl, hr, ⟨q3, q3'⟩⟩, q2⟩, -⟩ := hq
  subst hr
  have hz1 : T'.heap.size ≤ t.heap.size := q2.1
  have hk1 : ∀ q : Nat, q < T'.heap.size → ¬ va_A wc T'.heap.size q → t.heap[q]? = T'.heap[q]? := q2.2
  obtain ⟨hP2, hD2⟩ := va_join (wr := wr) (w1 := w1) hP hD isC isR hC hRr hnR hdis hk1 hFc q3 q3'
  have hS2 : va_S A0 s.heap t.heap (locs ++ L) := ⟨Nat.le_trans hS.1 hz1, fun q h1 h2 => by
      rw [hk1 q (Nat.lt_of_lt_of_le h1 hS.1) (fun h => h2 (hFc q h))]; exact hS.2.1 q h1 h2, fun x hx' => by
      rcases List.mem_append.mp hx' with h | h
      · exact hS.2.2 x h
      · exact hFc _ (hL x h)⟩
  obtain ⟨t2, g1, g2⟩ := kk t.heap (locs ++ L) hP2 hD2 hS2 T2 e1 X2
  exact ⟨t2, hstep₁ _ fun acts => by rw [doInvoke_state]; exact hon.trans g1, g2⟩
end
