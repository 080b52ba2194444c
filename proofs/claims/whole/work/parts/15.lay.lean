/-! the plan's lay; the search -/
theorem castStep_0 (S P : Nat → Nat → Int32) (k q : Int32) : r_Plan_castStep S P k q 0 = P 0 := by
  unfold r_Plan_castStep
  dsimp only
  split
  · rfl
  · split
    · rfl
    · split <;> rfl
theorem put_hp {S P : Nat → Nat → Int32} {k h q : Int32} (hp : ∀ j, vp_in (P 0 j) 6) (hN : ∃ n : Nat, n ≤ 6 ∧ S 0 0 = nI n) : ∀ j, vp_in ((r_Plan_put S P k h q).2 0 j) 6 := by
  unfold r_Plan_put
  dsimp only
  split
  · exact hp
  · split
    · exact hp
    · rename_i hw
      have hh := in_wh hN hw
      split
      · exact hp
      · split
        · split
          · dsimp only; rw [castStep_0]; exact in_upd hp hh
          · dsimp only; rw [castStep_0]; exact in_upd hp hh
        · split
          · dsimp only; rw [castStep_0]; exact in_upd hp hh
          · dsimp only; rw [castStep_0]; exact in_upd hp hh
theorem put_k {S P : Nat → Nat → Int32} {k h q : Int32} (hr : ¬ (r_Plan_put S P k h q).1 = 0) : vp_in k 6 := by
  unfold r_Plan_put at hr
  dsimp only at hr
  split at hr
  · exact absurd rfl hr
  · rename_i hw
    exact in_w5 hw
theorem toInt_s {k : Int32} {n : Nat} (h : vp_in k n) (hn : n < 2 ^ 30) : (k + 1).toInt = k.toInt + 1 := by
  obtain ⟨j, hj, rfl⟩ := vp_in_of h (by omega)
  rw [nI_1, nI_toInt (by omega), nI_toInt (by omega)]
  omega
def q_Plan_lay (S : Nat → Nat → Int32) (v q : Int32) : Nat → Int32 → (Nat → Nat → Int32) → Int32 × (Nat → Nat → Int32)
  | 0, _, _ => (0, fun _ _ => 0)
  | n + 1, k, P => if q ≤ k then ((1, P)) else (let f_2 : Int32 := r_Ord_heatOf v k; let f_3 : Int32 := r_Ord_casterOf v k; let f_4 : Int32 := (r_Plan_put S P k f_2 f_3).1; if f_4 = 0 then ((0, (r_Plan_put S P k f_2 f_3).2)) else (let x_7 : Int32 := k + 1; q_Plan_lay S v q n x_7 ((r_Plan_put S P k f_2 f_3).2)))
set_option maxHeartbeats 4000000 in
set_option maxRecDepth 100000 in
theorem lp_Plan_lay {l : Launch} {D : va_G} {cA cZ cL : ClassId} (a : Nat) (d : Nat → Nat) (b : Nat) (g : Nat → Nat) (S : Nat → Nat → Int32) (v q : Int32) (hG : ∀ j, vp_in (S 1 j) 6) (hN : ∃ n : Nat, n ≤ 6 ∧ S 0 0 = nI n) {p : Program} {e : Env} {s : State} {m : MethodId} {args : Array Value} {below : List Frame} {meth : Method} {c : Code} {A : Nat → Prop} (hx : p.tables.exec = Jvm.exec) (hb : c.code = c_Plan_lay) (hr : meth.sig.returnType = (some .boolean)) (hml : c.maxLocals = 4) (hts : ∀ w ∈ base, w.before args s = true) (hown : s.vm.findClass R_Plan = some m.cls) (hlocks : meth.locks = false) (hK : va_K D cls (tys3 cA cZ cL) s) (hZ : hz s) (hA : ∀ q : Nat, s.heap.size ≤ q → A q) :
    ∀ (n : Nat) (k : Int32) (P : (Nat → Nat → Int32)), ((0 ≤ k.toInt ∧ k.toInt ≤ 6 ∧ 7 < k.toInt + (n : Int)) ∧ (∀ j, vp_in (P 0 j) 6)) → ∀ (H : Heap) (locs : List Loc), va_P D cls [(a, .inr (0, [.ref b, .ref (d 0), .ref (d 1), .ref (d 2), .ref (d 3), .ref (d 4), .ref (d 5), .ref (d 6), .ref (d 7), .ref (d 8), .ref (d 9), .ref (d 10)])), (d 0, .inl (cA, 6, .inl (P 0))), (d 1, .inl (cA, 6, .inl (P 1))), (d 2, .inl (cA, 6, .inl (P 2))), (d 3, .inl (cA, 6, .inl (P 3))), (d 4, .inl (cA, 6, .inl (P 4))), (d 5, .inl (cA, 6, .inl (P 5))), (d 6, .inl (cA, 6, .inl (P 6))), (d 7, .inl (cA, 6, .inl (P 7))), (d 8, .inl (cA, 7, .inl (P 8))), (d 9, .inl (cA, 7, .inl (P 9))), (d 10, .inl (cA, 7, .inl (P 10))), (b, .inr (2, [.int (S 0 0), .ref (g 1), .ref (g 2), .ref (g 3), .ref (g 4), .ref (g 5), .ref (g 6), .int (S 0 1), .int (S 0 2), .int (S 0 3), .int (S 0 4), .int (S 0 5), .int (S 0 6), .int (S 0 7), .ref (g 7)])), (g 1, .inl (cA, 6, .inl (S 1))), (g 2, .inl (cA, 6, .inl (S 2))), (g 3, .inl (cA, 6, .inl (S 3))), (g 4, .inl (cA, 6, .inl (S 4))), (g 5, .inl (cA, 6, .inl (S 5))), (g 6, .inl (cA, 6, .inl (S 6))), (g 7, .inl (cA, 36, .inl (S 7)))] H → va_D A [(a, .inr (0, [.ref b, .ref (d 0), .ref (d 1), .ref (d 2), .ref (d 3), .ref (d 4), .ref (d 5), .ref (d 6), .ref (d 7), .ref (d 8), .ref (d 9), .ref (d 10)])), (d 0, .inl (cA, 6, .inl (P 0))), (d 1, .inl (cA, 6, .inl (P 1))), (d 2, .inl (cA, 6, .inl (P 2))), (d 3, .inl (cA, 6, .inl (P 3))), (d 4, .inl (cA, 6, .inl (P 4))), (d 5, .inl (cA, 6, .inl (P 5))), (d 6, .inl (cA, 6, .inl (P 6))), (d 7, .inl (cA, 6, .inl (P 7))), (d 8, .inl (cA, 7, .inl (P 8))), (d 9, .inl (cA, 7, .inl (P 9))), (d 10, .inl (cA, 7, .inl (P 10))), (b, .inr (2, [.int (S 0 0), .ref (g 1), .ref (g 2), .ref (g 3), .ref (g 4), .ref (g 5), .ref (g 6), .int (S 0 1), .int (S 0 2), .int (S 0 3), .int (S 0 4), .int (S 0 5), .int (S 0 6), .int (S 0 7), .ref (g 7)])), (g 1, .inl (cA, 6, .inl (S 1))), (g 2, .inl (cA, 6, .inl (S 2))), (g 3, .inl (cA, 6, .inl (S 3))), (g 4, .inl (cA, 6, .inl (S 4))), (g 5, .inl (cA, 6, .inl (S 5))), (g 6, .inl (cA, 6, .inl (S 6))), (g 7, .inl (cA, 36, .inl (S 7)))] → va_S A s.heap H locs → ∀ ls : Array Slot, lv_has ls 4 [(3, .int k), (0, .ref a), (1, .int v), (2, .int q)] → W p l e ({ frames := 4, cells := 0, slots := 0, locals := 93 } : Room) s m args below meth c H locs 0 0 (MQ below (va_Qi (fun r (_ : Unit) => r = (q_Plan_lay S v q n k P).1) (fun _ => hw_At D cls (tys3 cA cZ cL) A (wPlan cA a d b (q_Plan_lay S v q n k P).2 ++ wShop cA b g S)) A) args s 0 0 A) (F0 m 2 ls []) := by
  intro n
  induction n with
  | zero =>
    intro k P hi
    exact absurd hi (by rintro ⟨h, -⟩; omega)
  | succ n ih =>
    intro k P hi H locs hP hD hS ls hl
    refine lv_iload_n hx hb d_Plan_lay_2 rfl (lv_at hl 0 rfl) ?_
    refine lv_iload_n hx hb d_Plan_lay_3 rfl (lv_at hl 3 rfl) ?_
    refine lv_icmp_ge (tgt := 33) hx hb d_Plan_lay_4 (by decide) (fun c_1 => ?_) (fun c_1 => ?_)
    · skip
      refine lv_iconst (v := 1) hx hb d_Plan_lay_33 (by decide) ?_
      have e9 : q_Plan_lay S v q (n + 1) k P = (1, P) := by
        rw [q_Plan_lay]; simp only [if_pos c_1]
      exact W.zret (v := 1) hx hb hr rfl (fun t ht hW => ⟨⟨_, (), rfl, (by rw [e9]), (by rw [e9, ht]; exact hP.sub [0, 1, 2, 3, 4, 5, 6, 7, 8, 9, 10, 11, 12, 13, 14, 15, 16, 17, 18, 19] rfl), (by rw [e9]; exact hD.sub [0, 1, 2, 3, 4, 5, 6, 7, 8, 9, 10, 11, 12, 13, 14, 15, 16, 17, 18, 19] (by decide) rfl)⟩, hS.F ht⟩) hS.2.2 d_Plan_lay_34
    · skip
      refine lv_aload_n hx hb d_Plan_lay_7 rfl (lv_at hl 1 rfl) ?_
      refine lv_iload_n hx hb d_Plan_lay_8 rfl (lv_at hl 0 rfl) ?_
      refine lv_iload_n hx hb d_Plan_lay_9 rfl (lv_at hl 2 rfl) ?_
      refine lv_iload_n hx hb d_Plan_lay_10 rfl (lv_at hl 0 rfl) ?_
      refine hr_callSN (As := [.int v, .int k]) (rest := [.int k, .ref a]) ⟨hx, hb, hml, hown, hts⟩ (k_Ord_heatOf l D cA cZ cL v k) (bn_S 2 hts mb_456 (hts _ mb_1) hZ.2.1 (hts _ mb_455) (by decide +kernel) ⟨Nat.le_of_ble_eq_true rfl, Nat.le_of_ble_eq_true rfl⟩) hK hZ hP [] rfl rfl hl.1 rfl (lv_room (Nat.le_of_ble_eq_true rfl)) d_Plan_lay_11 ⟨Nat.zero_le _, Nat.zero_le _⟩ ?_
      refine lv_topi (fun f_2 ef_2 => ?_)
      refine lv_iload_n hx hb d_Plan_lay_14 rfl (lv_at hl 2 rfl) ?_
      refine lv_iload_n hx hb d_Plan_lay_15 rfl (lv_at hl 0 rfl) ?_
      refine hr_callSN (As := [.int v, .int k]) (rest := [.int f_2, .int k, .ref a]) ⟨hx, hb, hml, hown, hts⟩ (k_Ord_casterOf l D cA cZ cL v k) (bn_S 2 hts mb_459 (hts _ mb_1) hZ.2.2.1 (hts _ mb_458) (by decide +kernel) ⟨Nat.le_of_ble_eq_true rfl, Nat.le_of_ble_eq_true rfl⟩) hK hZ hP [] rfl rfl hl.1 rfl (lv_room (Nat.le_of_ble_eq_true rfl)) d_Plan_lay_16 ⟨Nat.zero_le _, Nat.zero_le _⟩ ?_
      refine lv_topi (fun f_3 ef_3 => ?_)
      refine hw_callVi (C := R_Plan) (T := T_Plan) (N := 12) (wr := []) (As := [.int k, .int f_2, .int f_3]) (rest := []) ⟨hx, hb, hml, hown, hts⟩ (k_Plan_put l D cA cZ cL a d b g S P k f_2 f_3 hG hi.2 hN) (bv_V 3 hts mb_236 (hts _ mb_4) (hts _ mb_460) (hts _ mb_234) (hts _ mb_235) (by decide +kernel) ⟨Nat.le_of_ble_eq_true rfl, Nat.le_of_ble_eq_true rfl⟩) hK hZ hP hD hS hA [0, 1, 2, 3, 4, 5, 6, 7, 8, 9, 10, 11, 12, 13, 14, 15, 16, 17, 18, 19] [] rfl rfl (by decide) (by decide) (by decide) 0 0 rfl rfl rfl hl.1 rfl (lv_room (Nat.le_of_ble_eq_true rfl)) d_Plan_lay_19 ⟨Nat.zero_le _, Nat.zero_le _⟩ (fun H locs hP hD hS => ?_)
      have hP : va_P D cls [(a, .inr (0, [.ref b, .ref (d 0), .ref (d 1), .ref (d 2), .ref (d 3), .ref (d 4), .ref (d 5), .ref (d 6), .ref (d 7), .ref (d 8), .ref (d 9), .ref (d 10)])), (d 0, .inl (cA, 6, .inl ((r_Plan_put S P k f_2 f_3).2 0))), (d 1, .inl (cA, 6, .inl ((r_Plan_put S P k f_2 f_3).2 1))), (d 2, .inl (cA, 6, .inl ((r_Plan_put S P k f_2 f_3).2 2))), (d 3, .inl (cA, 6, .inl ((r_Plan_put S P k f_2 f_3).2 3))), (d 4, .inl (cA, 6, .inl ((r_Plan_put S P k f_2 f_3).2 4))), (d 5, .inl (cA, 6, .inl ((r_Plan_put S P k f_2 f_3).2 5))), (d 6, .inl (cA, 6, .inl ((r_Plan_put S P k f_2 f_3).2 6))), (d 7, .inl (cA, 6, .inl ((r_Plan_put S P k f_2 f_3).2 7))), (d 8, .inl (cA, 7, .inl ((r_Plan_put S P k f_2 f_3).2 8))), (d 9, .inl (cA, 7, .inl ((r_Plan_put S P k f_2 f_3).2 9))), (d 10, .inl (cA, 7, .inl ((r_Plan_put S P k f_2 f_3).2 10))), (b, .inr (2, [.int (S 0 0), .ref (g 1), .ref (g 2), .ref (g 3), .ref (g 4), .ref (g 5), .ref (g 6), .int (S 0 1), .int (S 0 2), .int (S 0 3), .int (S 0 4), .int (S 0 5), .int (S 0 6), .int (S 0 7), .ref (g 7)])), (g 1, .inl (cA, 6, .inl (S 1))), (g 2, .inl (cA, 6, .inl (S 2))), (g 3, .inl (cA, 6, .inl (S 3))), (g 4, .inl (cA, 6, .inl (S 4))), (g 5, .inl (cA, 6, .inl (S 5))), (g 6, .inl (cA, 6, .inl (S 6))), (g 7, .inl (cA, 36, .inl (S 7)))] H := hP
      have hD : va_D A [(a, .inr (0, [.ref b, .ref (d 0), .ref (d 1), .ref (d 2), .ref (d 3), .ref (d 4), .ref (d 5), .ref (d 6), .ref (d 7), .ref (d 8), .ref (d 9), .ref (d 10)])), (d 0, .inl (cA, 6, .inl ((r_Plan_put S P k f_2 f_3).2 0))), (d 1, .inl (cA, 6, .inl ((r_Plan_put S P k f_2 f_3).2 1))), (d 2, .inl (cA, 6, .inl ((r_Plan_put S P k f_2 f_3).2 2))), (d 3, .inl (cA, 6, .inl ((r_Plan_put S P k f_2 f_3).2 3))), (d 4, .inl (cA, 6, .inl ((r_Plan_put S P k f_2 f_3).2 4))), (d 5, .inl (cA, 6, .inl ((r_Plan_put S P k f_2 f_3).2 5))), (d 6, .inl (cA, 6, .inl ((r_Plan_put S P k f_2 f_3).2 6))), (d 7, .inl (cA, 6, .inl ((r_Plan_put S P k f_2 f_3).2 7))), (d 8, .inl (cA, 7, .inl ((r_Plan_put S P k f_2 f_3).2 8))), (d 9, .inl (cA, 7, .inl ((r_Plan_put S P k f_2 f_3).2 9))), (d 10, .inl (cA, 7, .inl ((r_Plan_put S P k f_2 f_3).2 10))), (b, .inr (2, [.int (S 0 0), .ref (g 1), .ref (g 2), .ref (g 3), .ref (g 4), .ref (g 5), .ref (g 6), .int (S 0 1), .int (S 0 2), .int (S 0 3), .int (S 0 4), .int (S 0 5), .int (S 0 6), .int (S 0 7), .ref (g 7)])), (g 1, .inl (cA, 6, .inl (S 1))), (g 2, .inl (cA, 6, .inl (S 2))), (g 3, .inl (cA, 6, .inl (S 3))), (g 4, .inl (cA, 6, .inl (S 4))), (g 5, .inl (cA, 6, .inl (S 5))), (g 6, .inl (cA, 6, .inl (S 6))), (g 7, .inl (cA, 36, .inl (S 7)))] := hD
      refine lv_topi (fun f_4 ef_4 => ?_)
      refine lv_if_ne (tgt := 27) hx hb d_Plan_lay_22 (by decide) (fun c_5 => ?_) (fun c_5 => ?_)
      · skip
        have hk_6 : vp_in k 6 := put_k (S := S) (P := P) (h := r_Ord_heatOf v k) (q := r_Ord_casterOf v k) (by rw [← ef_2, ← ef_3, ← ef_4]; exact c_5)
        obtain ⟨x_7, ex_7⟩ : ∃ y : Int32, y = k + 1 := ⟨_, rfl⟩
        refine lv_iinc (v := x_7) (lv' := [(3, .int x_7), (0, .ref a), (1, .int v), (2, .int q)]) hx hb d_Plan_lay_27 hl (k := 0) rfl (by rw [ex_7]; rfl) (by decide) rfl (fun ls hl => ?_)
        refine lv_goto (tgt := 2) hx hb d_Plan_lay_30 (by decide) ?_
        have e9 : q_Plan_lay S v q (n + 1) k P = q_Plan_lay S v q n x_7 ((r_Plan_put S P k f_2 f_3).2) := by
          subst ef_2 ef_3 ef_4 ex_7; rw [q_Plan_lay]; simp only [if_neg c_1, if_neg c_5]
        rw [e9]
        exact ih x_7 ((r_Plan_put S P k f_2 f_3).2) ⟨by rw [ex_7, toInt_s hk_6 (by decide)]; have h8 := vp_in_iff.mp hk_6; omega, put_hp hi.2 hN⟩ _ _ (hP.sub [0, 1, 2, 3, 4, 5, 6, 7, 8, 9, 10, 11, 12, 13, 14, 15, 16, 17, 18, 19] rfl) (hD.sub [0, 1, 2, 3, 4, 5, 6, 7, 8, 9, 10, 11, 12, 13, 14, 15, 16, 17, 18, 19] (by decide) rfl) hS _ (lv_sub hl [0, 1, 2, 3] rfl)
      · skip
        refine lv_iconst (v := 0) hx hb d_Plan_lay_25 (by decide) ?_
        have e9 : q_Plan_lay S v q (n + 1) k P = (0, (r_Plan_put S P k f_2 f_3).2) := by
          subst ef_2 ef_3 ef_4; rw [q_Plan_lay]; simp only [if_neg c_1, if_pos c_5]
        exact W.zret (v := 0) hx hb hr rfl (fun t ht hW => ⟨⟨_, (), rfl, (by rw [e9]), (by rw [e9, ht]; exact hP.sub [0, 1, 2, 3, 4, 5, 6, 7, 8, 9, 10, 11, 12, 13, 14, 15, 16, 17, 18, 19] rfl), (by rw [e9]; exact hD.sub [0, 1, 2, 3, 4, 5, 6, 7, 8, 9, 10, 11, 12, 13, 14, 15, 16, 17, 18, 19] (by decide) rfl)⟩, hS.F ht⟩) hS.2.2 d_Plan_lay_26
def r_Plan_lay (S P : Nat → Nat → Int32) (v q : Int32) : Int32 × (Nat → Nat → Int32) := q_Plan_lay S v q 8 0 P
set_option maxHeartbeats 4000000 in
set_option maxRecDepth 100000 in
theorem k_Plan_lay (l : Launch) (D : va_G) (cA cZ cL : ClassId) (a : Nat) (d : Nat → Nat) (b : Nat) (g : Nat → Nat) (S P : Nat → Nat → Int32) (v q : Int32) (hG : ∀ j, vp_in (S 1 j) 6) (hp : ∀ j, vp_in (P 0 j) 6) (hN : ∃ n : Nat, n ≤ 6 ∧ S 0 0 = nI n) : MetI l y_Plan_lay (Cond.code y_Plan_lay c_Plan_lay 4 (some .boolean) :: base) ({ frames := 4, cells := 0, slots := 0, locals := 93 } : Room) D cls (tys3 cA cZ cL) ([.ref a, .int v, .int q]) (wPlan cA a d b P ++ wShop cA b g S) (r_Plan_lay S P v q).1 (wPlan cA a d b (r_Plan_lay S P v q).2 ++ wShop cA b g S) := by
  intro sz
  refine Met.ofW (cc := c_Plan_lay) (maxL := 4) (ret := (some .boolean)) (by decide) rfl ?_
  intro p e s m args below meth c s₁ B hml hv
  obtain ⟨rfl, hsz, hP, hK, hZ, hD0⟩ := hv
  have hx := B.exec
  have hb := B.bytes
  have hr := B.returns
  have hts0 := atoms_spec (ws := (Cond.code y_Plan_lay c_Plan_lay 4 (some .boolean) :: base)) B.pre
  have hts : ∀ w ∈ base, w.before _ s = true := fun w h => hts0 w (List.mem_cons_of_mem _ h)
  have hown : s.vm.findClass R_Plan = some m.cls := findClass_of_methodNamed B.named
  have hlocks := B.notSynchronized
  have hP : va_P D cls [(a, .inr (0, [.ref b, .ref (d 0), .ref (d 1), .ref (d 2), .ref (d 3), .ref (d 4), .ref (d 5), .ref (d 6), .ref (d 7), .ref (d 8), .ref (d 9), .ref (d 10)])), (d 0, .inl (cA, 6, .inl (P 0))), (d 1, .inl (cA, 6, .inl (P 1))), (d 2, .inl (cA, 6, .inl (P 2))), (d 3, .inl (cA, 6, .inl (P 3))), (d 4, .inl (cA, 6, .inl (P 4))), (d 5, .inl (cA, 6, .inl (P 5))), (d 6, .inl (cA, 6, .inl (P 6))), (d 7, .inl (cA, 6, .inl (P 7))), (d 8, .inl (cA, 7, .inl (P 8))), (d 9, .inl (cA, 7, .inl (P 9))), (d 10, .inl (cA, 7, .inl (P 10))), (b, .inr (2, [.int (S 0 0), .ref (g 1), .ref (g 2), .ref (g 3), .ref (g 4), .ref (g 5), .ref (g 6), .int (S 0 1), .int (S 0 2), .int (S 0 3), .int (S 0 4), .int (S 0 5), .int (S 0 6), .int (S 0 7), .ref (g 7)])), (g 1, .inl (cA, 6, .inl (S 1))), (g 2, .inl (cA, 6, .inl (S 2))), (g 3, .inl (cA, 6, .inl (S 3))), (g 4, .inl (cA, 6, .inl (S 4))), (g 5, .inl (cA, 6, .inl (S 5))), (g 6, .inl (cA, 6, .inl (S 6))), (g 7, .inl (cA, 36, .inl (S 7)))] s.heap := hP
  subst hsz
  have hD := hD0.self (sz := s.heap.size)
  generalize hAe : va_A (wPlan cA a d b P ++ wShop cA b g S) s.heap.size = A at hD ⊢
  have hA : ∀ q : Nat, s.heap.size ≤ q → A q := fun q h => by rw [← hAe]; exact Or.inr h
  have hS : va_S A s.heap s.heap [] := va_S.rf
  have hD : va_D A [(a, .inr (0, [.ref b, .ref (d 0), .ref (d 1), .ref (d 2), .ref (d 3), .ref (d 4), .ref (d 5), .ref (d 6), .ref (d 7), .ref (d 8), .ref (d 9), .ref (d 10)])), (d 0, .inl (cA, 6, .inl (P 0))), (d 1, .inl (cA, 6, .inl (P 1))), (d 2, .inl (cA, 6, .inl (P 2))), (d 3, .inl (cA, 6, .inl (P 3))), (d 4, .inl (cA, 6, .inl (P 4))), (d 5, .inl (cA, 6, .inl (P 5))), (d 6, .inl (cA, 6, .inl (P 6))), (d 7, .inl (cA, 6, .inl (P 7))), (d 8, .inl (cA, 7, .inl (P 8))), (d 9, .inl (cA, 7, .inl (P 9))), (d 10, .inl (cA, 7, .inl (P 10))), (b, .inr (2, [.int (S 0 0), .ref (g 1), .ref (g 2), .ref (g 3), .ref (g 4), .ref (g 5), .ref (g 6), .int (S 0 1), .int (S 0 2), .int (S 0 3), .int (S 0 4), .int (S 0 5), .int (S 0 6), .int (S 0 7), .ref (g 7)])), (g 1, .inl (cA, 6, .inl (S 1))), (g 2, .inl (cA, 6, .inl (S 2))), (g 3, .inl (cA, 6, .inl (S 3))), (g 4, .inl (cA, 6, .inl (S 4))), (g 5, .inl (cA, 6, .inl (S 5))), (g 6, .inl (cA, 6, .inl (S 6))), (g 7, .inl (cA, 36, .inl (S 7)))] := hD
  have hl := lv_entry ([.ref a, .int v, .int q]) (n := 4) (Nat.le_of_ble_eq_true rfl)
  rw [lg_entry_eq]
  generalize (lg_sl ([.ref a, .int v, .int q]) ++ List.replicate (4 - (lg_sl ([.ref a, .int v, .int q])).length) Slot.unset).toArray = ls at hl ⊢
  have hl : lv_has ls 4 [(0, .ref a), (1, .int v), (2, .int q)] := hl
  refine lv_iconst (v := 0) hx hb d_Plan_lay_0 (by decide) ?_
  refine lv_istore_n (lv' := [(3, .int 0), (0, .ref a), (1, .int v), (2, .int q)]) hx hb d_Plan_lay_1 rfl hl (by decide) rfl (fun ls hl => ?_)
  have e9 : r_Plan_lay S P v q = q_Plan_lay S v q 8 0 P := by
    rfl
  rw [e9]
  exact (lp_Plan_lay a d b g S v q hG hN hx hb hr hml hts hown hlocks hK hZ hA 8) 0 P ⟨by decide, hp⟩ _ _ (hP.sub [0, 1, 2, 3, 4, 5, 6, 7, 8, 9, 10, 11, 12, 13, 14, 15, 16, 17, 18, 19] rfl) (hD.sub [0, 1, 2, 3, 4, 5, 6, 7, 8, 9, 10, 11, 12, 13, 14, 15, 16, 17, 18, 19] (by decide) rfl) hS _ (lv_sub hl [0, 1, 2, 3] rfl)
def r_Srch_isWorthMore (S P : Nat → Nat → Int32) (x : Nat → Int32) (k : Int32) : Int32 × (Nat → Int32) := if x 1 < x 0 then (let f_2 : Int32 := (x 1) + 1; if x 3 = 0 then ((1, (tv [x 0, f_2, x 2, x 3, x 4, x 5]))) else (let f_4 : Int32 := r_Plan_costOf S P k; if x 5 ≤ f_4 then ((0, (tv [x 0, f_2, x 2, x 3, x 4, x 5]))) else ((1, (tv [x 0, f_2, x 2, x 3, x 4, x 5]))))) else ((0, (tv [x 0, x 1, 1, x 3, x 4, x 5])))
set_option maxHeartbeats 4000000 in
set_option maxRecDepth 100000 in
theorem k_Srch_isWorthMore (l : Launch) (D : va_G) (cA cZ cL : ClassId) (o a : Nat) (d : Nat → Nat) (b : Nat) (g : Nat → Nat) (S P : Nat → Nat → Int32) (x : Nat → Int32) (k : Int32) (hk : vp_in k 7) : MetI l y_Srch_isWorthMore (Cond.code y_Srch_isWorthMore c_Srch_isWorthMore 2 (some .boolean) :: base) ({ frames := 1, cells := 0, slots := 0, locals := 21 } : Room) D cls (tys3 cA cZ cL) ([.ref o, .int k]) (wSrch o b a x ++ wPlan cA a d b P ++ wShop cA b g S) (r_Srch_isWorthMore S P x k).1 (wSrch o b a ((r_Srch_isWorthMore S P x k).2) ++ wPlan cA a d b P ++ wShop cA b g S) := by
  intro sz
  refine Met.ofW (cc := c_Srch_isWorthMore) (maxL := 2) (ret := (some .boolean)) (by decide) rfl ?_
  intro p e s m args below meth c s₁ B hml hv
  obtain ⟨rfl, hsz, hP, hK, hZ, hD0⟩ := hv
  have hx := B.exec
  have hb := B.bytes
  have hr := B.returns
  have hts0 := atoms_spec (ws := (Cond.code y_Srch_isWorthMore c_Srch_isWorthMore 2 (some .boolean) :: base)) B.pre
  have hts : ∀ w ∈ base, w.before _ s = true := fun w h => hts0 w (List.mem_cons_of_mem _ h)
  have hown : s.vm.findClass R_Srch = some m.cls := findClass_of_methodNamed B.named
  have hlocks := B.notSynchronized
  have hP : va_P D cls [(o, .inr (1, [.ref b, .ref a, .int (x 0), .int (x 1), .int (x 2), .int (x 3), .int (x 4), .int (x 5)])), (a, .inr (0, [.ref b, .ref (d 0), .ref (d 1), .ref (d 2), .ref (d 3), .ref (d 4), .ref (d 5), .ref (d 6), .ref (d 7), .ref (d 8), .ref (d 9), .ref (d 10)])), (d 0, .inl (cA, 6, .inl (P 0))), (d 1, .inl (cA, 6, .inl (P 1))), (d 2, .inl (cA, 6, .inl (P 2))), (d 3, .inl (cA, 6, .inl (P 3))), (d 4, .inl (cA, 6, .inl (P 4))), (d 5, .inl (cA, 6, .inl (P 5))), (d 6, .inl (cA, 6, .inl (P 6))), (d 7, .inl (cA, 6, .inl (P 7))), (d 8, .inl (cA, 7, .inl (P 8))), (d 9, .inl (cA, 7, .inl (P 9))), (d 10, .inl (cA, 7, .inl (P 10))), (b, .inr (2, [.int (S 0 0), .ref (g 1), .ref (g 2), .ref (g 3), .ref (g 4), .ref (g 5), .ref (g 6), .int (S 0 1), .int (S 0 2), .int (S 0 3), .int (S 0 4), .int (S 0 5), .int (S 0 6), .int (S 0 7), .ref (g 7)])), (g 1, .inl (cA, 6, .inl (S 1))), (g 2, .inl (cA, 6, .inl (S 2))), (g 3, .inl (cA, 6, .inl (S 3))), (g 4, .inl (cA, 6, .inl (S 4))), (g 5, .inl (cA, 6, .inl (S 5))), (g 6, .inl (cA, 6, .inl (S 6))), (g 7, .inl (cA, 36, .inl (S 7)))] s.heap := hP
  subst hsz
  have hD := hD0.self (sz := s.heap.size)
  generalize hAe : va_A (wSrch o b a x ++ wPlan cA a d b P ++ wShop cA b g S) s.heap.size = A at hD ⊢
  have hA : ∀ q : Nat, s.heap.size ≤ q → A q := fun q h => by rw [← hAe]; exact Or.inr h
  have hS : va_S A s.heap s.heap [] := va_S.rf
  have hD : va_D A [(o, .inr (1, [.ref b, .ref a, .int (x 0), .int (x 1), .int (x 2), .int (x 3), .int (x 4), .int (x 5)])), (a, .inr (0, [.ref b, .ref (d 0), .ref (d 1), .ref (d 2), .ref (d 3), .ref (d 4), .ref (d 5), .ref (d 6), .ref (d 7), .ref (d 8), .ref (d 9), .ref (d 10)])), (d 0, .inl (cA, 6, .inl (P 0))), (d 1, .inl (cA, 6, .inl (P 1))), (d 2, .inl (cA, 6, .inl (P 2))), (d 3, .inl (cA, 6, .inl (P 3))), (d 4, .inl (cA, 6, .inl (P 4))), (d 5, .inl (cA, 6, .inl (P 5))), (d 6, .inl (cA, 6, .inl (P 6))), (d 7, .inl (cA, 6, .inl (P 7))), (d 8, .inl (cA, 7, .inl (P 8))), (d 9, .inl (cA, 7, .inl (P 9))), (d 10, .inl (cA, 7, .inl (P 10))), (b, .inr (2, [.int (S 0 0), .ref (g 1), .ref (g 2), .ref (g 3), .ref (g 4), .ref (g 5), .ref (g 6), .int (S 0 1), .int (S 0 2), .int (S 0 3), .int (S 0 4), .int (S 0 5), .int (S 0 6), .int (S 0 7), .ref (g 7)])), (g 1, .inl (cA, 6, .inl (S 1))), (g 2, .inl (cA, 6, .inl (S 2))), (g 3, .inl (cA, 6, .inl (S 3))), (g 4, .inl (cA, 6, .inl (S 4))), (g 5, .inl (cA, 6, .inl (S 5))), (g 6, .inl (cA, 6, .inl (S 6))), (g 7, .inl (cA, 36, .inl (S 7)))] := hD
  have hl := lv_entry ([.ref o, .int k]) (n := 2) (Nat.le_of_ble_eq_true rfl)
  rw [lg_entry_eq]
  generalize (lg_sl ([.ref o, .int k]) ++ List.replicate (2 - (lg_sl ([.ref o, .int k])).length) Slot.unset).toArray = ls at hl ⊢
  have hl : lv_has ls 2 [(0, .ref o), (1, .int k)] := hl
  refine lv_aload_n hx hb d_Srch_isWorthMore_0 rfl (lv_at hl 0 rfl) ?_
  refine va_get (D := D) (ci := 1) (v := .int (x 1)) (C := R_Srch) (T := T_Srch) (N := 8) hx hb hts i_Srch hown hK hP 0 rfl rfl 3 (by decide) (hts _ mb_162) (fun _ h9 => h9) rfl d_Srch_isWorthMore_1 ?_
  refine lv_aload_n hx hb d_Srch_isWorthMore_4 rfl (lv_at hl 0 rfl) ?_
  refine va_get (D := D) (ci := 1) (v := .int (x 0)) (C := R_Srch) (T := T_Srch) (N := 8) hx hb hts i_Srch hown hK hP 0 rfl rfl 2 (by decide) (hts _ mb_161) (fun _ h9 => h9) rfl d_Srch_isWorthMore_5 ?_
  refine lv_icmp_lt (tgt := 18) hx hb d_Srch_isWorthMore_8 (by decide) (fun c_1 => ?_) (fun c_1 => ?_)
  · skip
    refine lv_aload_n hx hb d_Srch_isWorthMore_18 rfl (lv_at hl 0 rfl) ?_
    refine lv_dup hx hb d_Srch_isWorthMore_19 rfl ?_
    refine va_get (D := D) (ci := 1) (v := .int (x 1)) (C := R_Srch) (T := T_Srch) (N := 8) hx hb hts i_Srch hown hK hP 0 rfl rfl 3 (by decide) (hts _ mb_162) (fun _ h9 => h9) rfl d_Srch_isWorthMore_20 ?_
    refine lv_iconst (v := 1) hx hb d_Srch_isWorthMore_23 (by decide) ?_
    refine lv_iadd hx hb d_Srch_isWorthMore_24 ?_
    refine lv_topi (fun f_2 ef_2 => ?_)
    refine va_put (D := D) (ci := 1) (v := .int f_2) (ty := .int) (C := R_Srch) (T := T_Srch) (N := 8) hx hb hts i_Srch t_Srch t_Srch_ok n_Srch hown hK hP hD hS 0 rfl rfl 3 (by decide) (hts _ mb_162) (fun _ h9 => h9) rfl (by decide +kernel) rfl rfl (Nat.le_of_ble_eq_true rfl) d_Srch_isWorthMore_25 (fun H locs hP hD hS => ?_)
    have hP : va_P D cls [(o, .inr (1, [.ref b, .ref a, .int (x 0), .int f_2, .int (x 2), .int (x 3), .int (x 4), .int (x 5)])), (a, .inr (0, [.ref b, .ref (d 0), .ref (d 1), .ref (d 2), .ref (d 3), .ref (d 4), .ref (d 5), .ref (d 6), .ref (d 7), .ref (d 8), .ref (d 9), .ref (d 10)])), (d 0, .inl (cA, 6, .inl (P 0))), (d 1, .inl (cA, 6, .inl (P 1))), (d 2, .inl (cA, 6, .inl (P 2))), (d 3, .inl (cA, 6, .inl (P 3))), (d 4, .inl (cA, 6, .inl (P 4))), (d 5, .inl (cA, 6, .inl (P 5))), (d 6, .inl (cA, 6, .inl (P 6))), (d 7, .inl (cA, 6, .inl (P 7))), (d 8, .inl (cA, 7, .inl (P 8))), (d 9, .inl (cA, 7, .inl (P 9))), (d 10, .inl (cA, 7, .inl (P 10))), (b, .inr (2, [.int (S 0 0), .ref (g 1), .ref (g 2), .ref (g 3), .ref (g 4), .ref (g 5), .ref (g 6), .int (S 0 1), .int (S 0 2), .int (S 0 3), .int (S 0 4), .int (S 0 5), .int (S 0 6), .int (S 0 7), .ref (g 7)])), (g 1, .inl (cA, 6, .inl (S 1))), (g 2, .inl (cA, 6, .inl (S 2))), (g 3, .inl (cA, 6, .inl (S 3))), (g 4, .inl (cA, 6, .inl (S 4))), (g 5, .inl (cA, 6, .inl (S 5))), (g 6, .inl (cA, 6, .inl (S 6))), (g 7, .inl (cA, 36, .inl (S 7)))] H := hP
    have hD : va_D A [(o, .inr (1, [.ref b, .ref a, .int (x 0), .int f_2, .int (x 2), .int (x 3), .int (x 4), .int (x 5)])), (a, .inr (0, [.ref b, .ref (d 0), .ref (d 1), .ref (d 2), .ref (d 3), .ref (d 4), .ref (d 5), .ref (d 6), .ref (d 7), .ref (d 8), .ref (d 9), .ref (d 10)])), (d 0, .inl (cA, 6, .inl (P 0))), (d 1, .inl (cA, 6, .inl (P 1))), (d 2, .inl (cA, 6, .inl (P 2))), (d 3, .inl (cA, 6, .inl (P 3))), (d 4, .inl (cA, 6, .inl (P 4))), (d 5, .inl (cA, 6, .inl (P 5))), (d 6, .inl (cA, 6, .inl (P 6))), (d 7, .inl (cA, 6, .inl (P 7))), (d 8, .inl (cA, 7, .inl (P 8))), (d 9, .inl (cA, 7, .inl (P 9))), (d 10, .inl (cA, 7, .inl (P 10))), (b, .inr (2, [.int (S 0 0), .ref (g 1), .ref (g 2), .ref (g 3), .ref (g 4), .ref (g 5), .ref (g 6), .int (S 0 1), .int (S 0 2), .int (S 0 3), .int (S 0 4), .int (S 0 5), .int (S 0 6), .int (S 0 7), .ref (g 7)])), (g 1, .inl (cA, 6, .inl (S 1))), (g 2, .inl (cA, 6, .inl (S 2))), (g 3, .inl (cA, 6, .inl (S 3))), (g 4, .inl (cA, 6, .inl (S 4))), (g 5, .inl (cA, 6, .inl (S 5))), (g 6, .inl (cA, 6, .inl (S 6))), (g 7, .inl (cA, 36, .inl (S 7)))] := hD
    refine lv_aload_n hx hb d_Srch_isWorthMore_28 rfl (lv_at hl 0 rfl) ?_
    refine va_get (D := D) (ci := 1) (v := .int (x 3)) (C := R_Srch) (T := T_Srch) (N := 8) hx hb hts i_Srch hown hK hP 0 rfl rfl 5 (by decide) (hts _ mb_166) (fun _ h9 => h9) rfl d_Srch_isWorthMore_29 ?_
    refine lv_if_eq (tgt := 50) hx hb d_Srch_isWorthMore_32 (by decide) (fun c_3 => ?_) (fun c_3 => ?_)
    · skip
      refine lv_iconst (v := 1) hx hb d_Srch_isWorthMore_50 (by decide) ?_
      refine lv_goto (tgt := 55) hx hb d_Srch_isWorthMore_51 (by decide) ?_
      have e9 : r_Srch_isWorthMore S P x k = (1, (tv [x 0, f_2, x 2, x 3, x 4, x 5])) := by
        subst ef_2; unfold r_Srch_isWorthMore; simp only [if_pos c_1, if_pos c_3]
      exact W.zret (v := 1) hx hb hr rfl (fun t ht hW => ⟨⟨_, (), rfl, (by rw [e9]), (by rw [e9, ht]; exact hP.sub [0, 1, 2, 3, 4, 5, 6, 7, 8, 9, 10, 11, 12, 13, 14, 15, 16, 17, 18, 19, 20] rfl), (by rw [e9]; exact hD.sub [0, 1, 2, 3, 4, 5, 6, 7, 8, 9, 10, 11, 12, 13, 14, 15, 16, 17, 18, 19, 20] (by decide) rfl)⟩, hS.F ht⟩) hS.2.2 d_Srch_isWorthMore_55
    · skip
      refine lv_aload_n hx hb d_Srch_isWorthMore_35 rfl (lv_at hl 0 rfl) ?_
      refine va_get (D := D) (ci := 1) (v := .ref a) (C := R_Srch) (T := T_Srch) (N := 8) hx hb hts i_Srch hown hK hP 0 rfl rfl 1 (by decide) (hts _ mb_159) (fun _ h9 => h9) rfl d_Srch_isWorthMore_36 ?_
      refine lv_iload_n hx hb d_Srch_isWorthMore_39 rfl (lv_at hl 1 rfl) ?_
      refine hr_callV (C := R_Plan) (T := T_Plan) (N := 12) (As := [.int k]) (rest := []) ⟨hx, hb, hml, hown, hts⟩ (k_Plan_costOf l D cA cZ cL a d b g S P k hk) (bv_V 1 hts mb_442 (hts _ mb_4) (hts _ mb_439) (hts _ mb_440) (hts _ mb_441) (by decide +kernel) ⟨Nat.le_of_ble_eq_true rfl, Nat.le_of_ble_eq_true rfl⟩) hK hZ hP [1, 2, 3, 4, 5, 6, 7, 8, 9, 10, 11, 12, 13, 14, 15, 16, 17, 18, 19, 20] rfl 1 0 rfl rfl rfl hl.1 rfl (lv_room (Nat.le_of_ble_eq_true rfl)) d_Srch_isWorthMore_40 ⟨Nat.zero_le _, Nat.zero_le _⟩ ?_
      refine lv_topi (fun f_4 ef_4 => ?_)
      refine lv_aload_n hx hb d_Srch_isWorthMore_43 rfl (lv_at hl 0 rfl) ?_
      refine va_get (D := D) (ci := 1) (v := .int (x 5)) (C := R_Srch) (T := T_Srch) (N := 8) hx hb hts i_Srch hown hK hP 0 rfl rfl 7 (by decide) (hts _ mb_170) (fun _ h9 => h9) rfl d_Srch_isWorthMore_44 ?_
      refine lv_icmp_ge (tgt := 54) hx hb d_Srch_isWorthMore_47 (by decide) (fun c_5 => ?_) (fun c_5 => ?_)
      · skip
        refine lv_iconst (v := 0) hx hb d_Srch_isWorthMore_54 (by decide) ?_
        have e9 : r_Srch_isWorthMore S P x k = (0, (tv [x 0, f_2, x 2, x 3, x 4, x 5])) := by
          subst ef_2 ef_4; unfold r_Srch_isWorthMore; simp only [if_pos c_1, if_neg c_3, if_pos c_5]
        exact W.zret (v := 0) hx hb hr rfl (fun t ht hW => ⟨⟨_, (), rfl, (by rw [e9]), (by rw [e9, ht]; exact hP.sub [0, 1, 2, 3, 4, 5, 6, 7, 8, 9, 10, 11, 12, 13, 14, 15, 16, 17, 18, 19, 20] rfl), (by rw [e9]; exact hD.sub [0, 1, 2, 3, 4, 5, 6, 7, 8, 9, 10, 11, 12, 13, 14, 15, 16, 17, 18, 19, 20] (by decide) rfl)⟩, hS.F ht⟩) hS.2.2 d_Srch_isWorthMore_55
      · skip
        refine lv_iconst (v := 1) hx hb d_Srch_isWorthMore_50 (by decide) ?_
        refine lv_goto (tgt := 55) hx hb d_Srch_isWorthMore_51 (by decide) ?_
        have e9 : r_Srch_isWorthMore S P x k = (1, (tv [x 0, f_2, x 2, x 3, x 4, x 5])) := by
          subst ef_2 ef_4; unfold r_Srch_isWorthMore; simp only [if_pos c_1, if_neg c_3, if_neg c_5]
        exact W.zret (v := 1) hx hb hr rfl (fun t ht hW => ⟨⟨_, (), rfl, (by rw [e9]), (by rw [e9, ht]; exact hP.sub [0, 1, 2, 3, 4, 5, 6, 7, 8, 9, 10, 11, 12, 13, 14, 15, 16, 17, 18, 19, 20] rfl), (by rw [e9]; exact hD.sub [0, 1, 2, 3, 4, 5, 6, 7, 8, 9, 10, 11, 12, 13, 14, 15, 16, 17, 18, 19, 20] (by decide) rfl)⟩, hS.F ht⟩) hS.2.2 d_Srch_isWorthMore_55
  · skip
    refine lv_aload_n hx hb d_Srch_isWorthMore_11 rfl (lv_at hl 0 rfl) ?_
    refine lv_iconst (v := 1) hx hb d_Srch_isWorthMore_12 (by decide) ?_
    refine va_put (D := D) (ci := 1) (v := .int 1) (ty := .boolean) (C := R_Srch) (T := T_Srch) (N := 8) hx hb hts i_Srch t_Srch t_Srch_ok n_Srch hown hK hP hD hS 0 rfl rfl 4 (by decide) (hts _ mb_164) (fun _ h9 => h9) rfl (by decide +kernel) rfl rfl (Nat.le_of_ble_eq_true rfl) d_Srch_isWorthMore_13 (fun H locs hP hD hS => ?_)
    have hP : va_P D cls [(o, .inr (1, [.ref b, .ref a, .int (x 0), .int (x 1), .int 1, .int (x 3), .int (x 4), .int (x 5)])), (a, .inr (0, [.ref b, .ref (d 0), .ref (d 1), .ref (d 2), .ref (d 3), .ref (d 4), .ref (d 5), .ref (d 6), .ref (d 7), .ref (d 8), .ref (d 9), .ref (d 10)])), (d 0, .inl (cA, 6, .inl (P 0))), (d 1, .inl (cA, 6, .inl (P 1))), (d 2, .inl (cA, 6, .inl (P 2))), (d 3, .inl (cA, 6, .inl (P 3))), (d 4, .inl (cA, 6, .inl (P 4))), (d 5, .inl (cA, 6, .inl (P 5))), (d 6, .inl (cA, 6, .inl (P 6))), (d 7, .inl (cA, 6, .inl (P 7))), (d 8, .inl (cA, 7, .inl (P 8))), (d 9, .inl (cA, 7, .inl (P 9))), (d 10, .inl (cA, 7, .inl (P 10))), (b, .inr (2, [.int (S 0 0), .ref (g 1), .ref (g 2), .ref (g 3), .ref (g 4), .ref (g 5), .ref (g 6), .int (S 0 1), .int (S 0 2), .int (S 0 3), .int (S 0 4), .int (S 0 5), .int (S 0 6), .int (S 0 7), .ref (g 7)])), (g 1, .inl (cA, 6, .inl (S 1))), (g 2, .inl (cA, 6, .inl (S 2))), (g 3, .inl (cA, 6, .inl (S 3))), (g 4, .inl (cA, 6, .inl (S 4))), (g 5, .inl (cA, 6, .inl (S 5))), (g 6, .inl (cA, 6, .inl (S 6))), (g 7, .inl (cA, 36, .inl (S 7)))] H := hP
    have hD : va_D A [(o, .inr (1, [.ref b, .ref a, .int (x 0), .int (x 1), .int 1, .int (x 3), .int (x 4), .int (x 5)])), (a, .inr (0, [.ref b, .ref (d 0), .ref (d 1), .ref (d 2), .ref (d 3), .ref (d 4), .ref (d 5), .ref (d 6), .ref (d 7), .ref (d 8), .ref (d 9), .ref (d 10)])), (d 0, .inl (cA, 6, .inl (P 0))), (d 1, .inl (cA, 6, .inl (P 1))), (d 2, .inl (cA, 6, .inl (P 2))), (d 3, .inl (cA, 6, .inl (P 3))), (d 4, .inl (cA, 6, .inl (P 4))), (d 5, .inl (cA, 6, .inl (P 5))), (d 6, .inl (cA, 6, .inl (P 6))), (d 7, .inl (cA, 6, .inl (P 7))), (d 8, .inl (cA, 7, .inl (P 8))), (d 9, .inl (cA, 7, .inl (P 9))), (d 10, .inl (cA, 7, .inl (P 10))), (b, .inr (2, [.int (S 0 0), .ref (g 1), .ref (g 2), .ref (g 3), .ref (g 4), .ref (g 5), .ref (g 6), .int (S 0 1), .int (S 0 2), .int (S 0 3), .int (S 0 4), .int (S 0 5), .int (S 0 6), .int (S 0 7), .ref (g 7)])), (g 1, .inl (cA, 6, .inl (S 1))), (g 2, .inl (cA, 6, .inl (S 2))), (g 3, .inl (cA, 6, .inl (S 3))), (g 4, .inl (cA, 6, .inl (S 4))), (g 5, .inl (cA, 6, .inl (S 5))), (g 6, .inl (cA, 6, .inl (S 6))), (g 7, .inl (cA, 36, .inl (S 7)))] := hD
    refine lv_iconst (v := 0) hx hb d_Srch_isWorthMore_16 (by decide) ?_
    have e9 : r_Srch_isWorthMore S P x k = (0, (tv [x 0, x 1, 1, x 3, x 4, x 5])) := by
      unfold r_Srch_isWorthMore; simp only [if_neg c_1]
    exact W.zret (v := 0) hx hb hr rfl (fun t ht hW => ⟨⟨_, (), rfl, (by rw [e9]), (by rw [e9, ht]; exact hP.sub [0, 1, 2, 3, 4, 5, 6, 7, 8, 9, 10, 11, 12, 13, 14, 15, 16, 17, 18, 19, 20] rfl), (by rw [e9]; exact hD.sub [0, 1, 2, 3, 4, 5, 6, 7, 8, 9, 10, 11, 12, 13, 14, 15, 16, 17, 18, 19, 20] (by decide) rfl)⟩, hS.F ht⟩) hS.2.2 d_Srch_isWorthMore_17
