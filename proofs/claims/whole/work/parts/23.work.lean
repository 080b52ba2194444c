/-! the model: workOut -/
theorem half6 {x : Int32} (h : vp_in x 12) : vp_in (x / 2) 6 := by
  obtain ⟨i, hi, rfl⟩ := vp_in_of h (by decide)
  rw [show (2 : Int32) = nI 2 from rfl, pk_div (by omega) (by decide) (by decide)]
  exact vp_in_nI (by omega) (by decide)
theorem in_66b {x y : Int32} (h : vp_in x 6) (h2 : vp_in y 6) : vp_in (6 * x + y) 36 := by
  rw [show (6 : Int32) * x = x * 6 from Int32.mul_comm _ _]
  exact in_66 h h2
theorem cl_lt {x q : Int32} {n : Nat} (h : vp_in x n) (hq : x.toInt < q.toInt) : ((x.toNatClampNeg : Nat) : Int) < q.toInt := by
  have h1 := vp_in_iff.mp h
  have e : ((x.toNatClampNeg : Nat) : Int) = x.toInt := by
    show ((x.toInt.toNat : Nat) : Int) = x.toInt
    omega
  omega
theorem lt_of {x y : Int32} (h : ¬ y ≤ x) : x.toInt < y.toInt := by
  rw [Int32.le_iff_toInt_le] at h
  omega
def b_Mod_workOut_66 (M : (Nat → Nat → Int32)) (k : Int32) : Nat → Int32 → Int32 → Int32 → Int32 × Int32
  | 0, _, _, _ => (0, 0)
  | n + 1, i, j, h => if k ≤ i then ((j, h)) else (let f_2 : Int32 := M 9 i.toNatClampNeg; let f_3 : Int32 := f_2 - f_2 / 2 * 2; let f_4 : Int32 := M 9 k.toNatClampNeg; let f_5 : Int32 := f_4 - f_4 / 2 * 2; if f_3 = f_5 then (let f_12 : Int32 := (let f_8 : Int32 := M 13 i.toNatClampNeg; if f_8 = 0 then (if 0 ≤ j then (let f_11 : Int32 := h + 1; f_11) else (1)) else (1)); let x_13 : Int32 := i + 1; b_Mod_workOut_66 M k n x_13 i f_12) else (let x_7 : Int32 := i + 1; b_Mod_workOut_66 M k n x_7 j h))
set_option maxHeartbeats 4000000 in
set_option maxRecDepth 100000 in
theorem lb_Mod_workOut_66 {p : Program} {l : Launch} {e : Env} {R : Room} {s : State} {m : MethodId} {args : Array Value} {below : List Frame} {meth : Method} {c : Code} {cells slots : Nat} {Q : State → Prop} {D : va_G} {cA cZ cL : ClassId} {a : Nat} {d : Nat → Nat} {M : (Nat → Nat → Int32)} {v1 v2 v3 k v5 : Int32} (hx : p.tables.exec = Jvm.exec) (hb : c.code = c_Mod_workOut) (hts : ∀ w ∈ base, w.before args s = true) (hown : s.vm.findClass R_Mod = some m.cls) (hK : va_K D cls (tys3 cA cZ cL) s) {H : Heap} {locs : List Loc} (hk6 : vp_in k 6) (hP : va_P D cls [(a, .inr (4, [.int (M 0 0), .int (M 0 1), .ref (d 1), .ref (d 2), .ref (d 3), .ref (d 4), .ref (d 5), .ref (d 6), .int (M 0 2), .int (M 0 3), .int (M 0 4), .int (M 0 5), .int (M 0 6), .int (M 0 7), .int (M 0 8), .ref (d 7), .int (M 0 9), .int (M 0 10), .int (M 0 11), .int (M 0 12), .ref (d 8), .ref (d 9), .ref (d 10), .ref (d 11), .ref (d 12), .ref (d 13), .int (M 0 13), .int (M 0 14), .int (M 0 15)])), (d 1, .inl (cA, 6, .inl (M 1))), (d 2, .inl (cA, 6, .inl (M 2))), (d 3, .inl (cA, 6, .inl (M 3))), (d 4, .inl (cA, 6, .inl (M 4))), (d 5, .inl (cA, 6, .inl (M 5))), (d 6, .inl (cA, 6, .inl (M 6))), (d 7, .inl (cA, 36, .inl (M 7))), (d 8, .inl (cA, 6, .inl (M 8))), (d 9, .inl (cA, 7, .inl (M 9))), (d 10, .inl (cA, 6, .inl (M 10))), (d 11, .inl (cA, 6, .inl (M 11))), (d 12, .inl (cA, 6, .inl (M 12))), (d 13, .inl (cZ, 6, .inl (M 13)))] H) : ∀ (n : Nat) (i : Int32) (j : Int32) (h : Int32), ((0 ≤ i.toInt ∧ i.toInt ≤ 6 ∧ 7 < i.toInt + (n : Int)) ∧ (j = -1 ∨ (vp_in j 6 ∧ j.toInt < k.toInt))) → (∀ (y1 y2 : Int32) (ls : Array Slot), y1 = (b_Mod_workOut_66 M k n i j h).1 → y2 = (b_Mod_workOut_66 M k n i j h).2 → (y1 = -1 ∨ (vp_in y1 6 ∧ y1.toInt < k.toInt)) → lv_has ls 13 [(6, .int y1), (7, .int y2), (0, .ref a), (1, .int v1), (2, .int v2), (3, .int v3), (4, .int k), (5, .int v5)] → W p l e R s m args below meth c H locs cells slots Q (F0 m 129 ls [])) → ∀ ls : Array Slot, lv_has ls 13 [(8, .int i), (6, .int j), (7, .int h), (0, .ref a), (1, .int v1), (2, .int v2), (3, .int v3), (4, .int k), (5, .int v5)] → W p l e R s m args below meth c H locs cells slots Q (F0 m 66 ls []) := by
  intro n
  induction n with
  | zero =>
    intro i j h hi
    exact absurd hi (by rintro ⟨h, -⟩; omega)
  | succ n ih =>
    intro i j h hi hk ls hl
    refine lv_iload hx hb d_Mod_workOut_66 (lv_at hl 0 rfl) ?_
    refine lv_iload hx hb d_Mod_workOut_68 (lv_at hl 7 rfl) ?_
    refine lv_icmp_ge (tgt := 129) hx hb d_Mod_workOut_70 (by decide) (fun c_1 => ?_) (fun c_1 => ?_)
    · skip
      have e9 : b_Mod_workOut_66 M k (n + 1) i j h = (j, h) := by
        rw [b_Mod_workOut_66]; simp only [if_pos c_1]
      exact hk _ _ _ (by rw [e9]) (by rw [e9]) hi.2 (lv_sub hl [1, 2, 3, 4, 5, 6, 7, 8] rfl)
    · skip
      have hik := lt_of c_1
      have hi6 : vp_in i 6 := in_lt7 (in_le hk6 (by decide)) hi.1.1 c_1
      refine lv_aload_n hx hb d_Mod_workOut_73 rfl (lv_at hl 3 rfl) ?_
      refine va_get (D := D) (ci := 4) (v := .ref (d 9)) (C := R_Mod) (T := T_Mod) (N := 29) hx hb hts i_Mod hown hK hP 0 rfl rfl 21 (by decide) (hts _ mb_544) (fun _ h9 => h9) rfl d_Mod_workOut_74 ?_
      refine lv_iload hx hb d_Mod_workOut_77 (lv_at hl 0 rfl) ?_
      refine va_iald hx hb hK hP 9 0 rfl rfl (in_le hi6 (by decide)) d_Mod_workOut_79 ?_
      refine lv_topi (fun f_2 ef_2 => ?_)
      refine lv_iconst (v := 2) hx hb d_Mod_workOut_80 (by decide) ?_
      refine lv_irem hx hb d_Mod_workOut_81 (by decide) ?_
      refine lv_topi (fun f_3 ef_3 => ?_)
      refine lv_aload_n hx hb d_Mod_workOut_82 rfl (lv_at hl 3 rfl) ?_
      refine va_get (D := D) (ci := 4) (v := .ref (d 9)) (C := R_Mod) (T := T_Mod) (N := 29) hx hb hts i_Mod hown hK hP 0 rfl rfl 21 (by decide) (hts _ mb_544) (fun _ h9 => h9) rfl d_Mod_workOut_83 ?_
      refine lv_iload hx hb d_Mod_workOut_86 (lv_at hl 7 rfl) ?_
      refine va_iald hx hb hK hP 9 0 rfl rfl (in_le hk6 (by decide)) d_Mod_workOut_88 ?_
      refine lv_topi (fun f_4 ef_4 => ?_)
      refine lv_iconst (v := 2) hx hb d_Mod_workOut_89 (by decide) ?_
      refine lv_irem hx hb d_Mod_workOut_90 (by decide) ?_
      refine lv_topi (fun f_5 ef_5 => ?_)
      refine lv_icmp_ne (tgt := 123) hx hb d_Mod_workOut_91 (by decide) (fun c_6 => ?_) (fun c_6 => ?_)
      · skip
        obtain ⟨x_7, ex_7⟩ : ∃ y : Int32, y = i + 1 := ⟨_, rfl⟩
        refine lv_iinc (v := x_7) (lv' := [(8, .int x_7), (6, .int j), (7, .int h), (0, .ref a), (1, .int v1), (2, .int v2), (3, .int v3), (4, .int k), (5, .int v5)]) hx hb d_Mod_workOut_123 hl (k := 0) rfl (by rw [ex_7]; rfl) (by decide) rfl (fun ls hl => ?_)
        refine lv_goto (tgt := 66) hx hb d_Mod_workOut_126 (by decide) ?_
        have e9 : b_Mod_workOut_66 M k (n + 1) i j h = b_Mod_workOut_66 M k n x_7 j h := by
          subst ef_2 ef_3 ef_4 ef_5 ex_7; rw [b_Mod_workOut_66]; simp only [if_neg c_1, if_neg c_6]
        rw [e9] at hk
        exact ih x_7 j h ⟨by rw [ex_7, toInt_s hi6 (by decide)]; have h8 := vp_in_iff.mp hi6; omega, hi.2⟩ hk _ (lv_sub hl [0, 1, 2, 3, 4, 5, 6, 7, 8] rfl)
      · skip
        refine jn 117 [] 13 [(8, .int i), (6, .int j), (7, .int h), (0, .ref a), (1, .int v1), (2, .int v2), (3, .int v3), (4, .int k), (5, .int v5)] (let f_8 : Int32 := M 13 i.toNatClampNeg; if f_8 = 0 then (if 0 ≤ j then (let f_11 : Int32 := h + 1; f_11) else (1)) else (1)) (fun f_12 ls ef_12 hl => ?_) (fun J => ?_)
        · skip
          refine lv_istore (lv' := [(7, .int f_12), (8, .int i), (6, .int j), (0, .ref a), (1, .int v1), (2, .int v2), (3, .int v3), (4, .int k), (5, .int v5)]) hx hb d_Mod_workOut_117 hl (by decide) rfl (fun ls hl => ?_)
          refine lv_iload hx hb d_Mod_workOut_119 (lv_at hl 1 rfl) ?_
          refine lv_istore (lv' := [(6, .int i), (7, .int f_12), (8, .int i), (0, .ref a), (1, .int v1), (2, .int v2), (3, .int v3), (4, .int k), (5, .int v5)]) hx hb d_Mod_workOut_121 hl (by decide) rfl (fun ls hl => ?_)
          obtain ⟨x_13, ex_13⟩ : ∃ y : Int32, y = i + 1 := ⟨_, rfl⟩
          refine lv_iinc (v := x_13) (lv' := [(8, .int x_13), (6, .int i), (7, .int f_12), (0, .ref a), (1, .int v1), (2, .int v2), (3, .int v3), (4, .int k), (5, .int v5)]) hx hb d_Mod_workOut_123 hl (k := 2) rfl (by rw [ex_13]; rfl) (by decide) rfl (fun ls hl => ?_)
          refine lv_goto (tgt := 66) hx hb d_Mod_workOut_126 (by decide) ?_
          have e9 : b_Mod_workOut_66 M k (n + 1) i j h = b_Mod_workOut_66 M k n x_13 i f_12 := by
            subst ef_2 ef_3 ef_4 ef_5 ef_12 ex_13; rw [b_Mod_workOut_66]; simp only [if_neg c_1, if_pos c_6]
          rw [e9] at hk
          exact ih x_13 i f_12 ⟨by rw [ex_13, toInt_s hi6 (by decide)]; have h8 := vp_in_iff.mp hi6; omega, Or.inr ⟨hi6, hik⟩⟩ hk _ (lv_sub hl [0, 1, 2, 3, 4, 5, 6, 7, 8] rfl)
        · skip
          refine lv_aload_n hx hb d_Mod_workOut_94 rfl (lv_at hl 3 rfl) ?_
          refine va_get (D := D) (ci := 4) (v := .ref (d 13)) (C := R_Mod) (T := T_Mod) (N := 29) hx hb hts i_Mod hown hK hP 0 rfl rfl 25 (by decide) (hts _ mb_548) (fun _ h9 => h9) rfl d_Mod_workOut_95 ?_
          refine lv_iload hx hb d_Mod_workOut_98 (lv_at hl 0 rfl) ?_
          refine va_zald hx hb hK hP 13 1 rfl rfl hi6 d_Mod_workOut_100 ?_
          refine lv_topi (fun f_8 ef_8 => ?_)
          refine lv_if_ne (tgt := 109) hx hb d_Mod_workOut_101 (by decide) (fun c_9 => ?_) (fun c_9 => ?_)
          · skip
            refine lv_iconst (v := 1) hx hb d_Mod_workOut_109 (by decide) ?_
            refine lv_goto (tgt := 117) hx hb d_Mod_workOut_110 (by decide) ?_
            exact J _ _ (by subst ef_8; simp only [if_neg c_9]) (lv_sub hl [0, 1, 2, 3, 4, 5, 6, 7, 8] rfl)
          · skip
            refine lv_iload hx hb d_Mod_workOut_104 (lv_at hl 1 rfl) ?_
            refine lv_if_ge (tgt := 113) hx hb d_Mod_workOut_106 (by decide) (fun c_10 => ?_) (fun c_10 => ?_)
            · skip
              refine lv_iload hx hb d_Mod_workOut_113 (lv_at hl 2 rfl) ?_
              refine lv_iconst (v := 1) hx hb d_Mod_workOut_115 (by decide) ?_
              refine lv_iadd hx hb d_Mod_workOut_116 ?_
              refine lv_topi (fun f_11 ef_11 => ?_)
              exact J _ _ (by subst ef_8 ef_11; simp only [if_pos c_9, if_pos c_10]) (lv_sub hl [0, 1, 2, 3, 4, 5, 6, 7, 8] rfl)
            · skip
              refine lv_iconst (v := 1) hx hb d_Mod_workOut_109 (by decide) ?_
              refine lv_goto (tgt := 117) hx hb d_Mod_workOut_110 (by decide) ?_
              exact J _ _ (by subst ef_8; simp only [if_pos c_9, if_neg c_10]) (lv_sub hl [0, 1, 2, 3, 4, 5, 6, 7, 8] rfl)
def q_Mod_workOut (q : Int32) : Nat → Int32 → Int32 → Int32 → (Nat → Nat → Int32) → Int32 × (Nat → Nat → Int32)
  | 0, _, _, _, M => (0, M)
  | n + 1, k, j, h, M => if q ≤ k then ((h, M)) else (let f_2 : Int32 := M 9 k.toNatClampNeg; let f_3 : Int32 := f_2 / 2; let f_4 : Int32 := M 3 f_3.toNatClampNeg; let f_5 : Int32 := j + f_4; let f_6 : Int32 := (b_Mod_workOut_66 (tb [M 0, M 1, M 2, M 3, M 4, M 5, M 6, M 7, M 8, M 9, upd (M 10) k.toNatClampNeg f_5, M 11, M 12, M 13]) k 8 0 (-1) 0).1; let f_7 : Int32 := (b_Mod_workOut_66 (tb [M 0, M 1, M 2, M 3, M 4, M 5, M 6, M 7, M 8, M 9, upd (M 10) k.toNatClampNeg f_5, M 11, M 12, M 13]) k 8 0 (-1) 0).2; if f_6 < 0 then (let f_10 : Int32 := upd (M 11) k.toNatClampNeg f_5 k.toNatClampNeg; let f_11 : Int32 := M 4 f_3.toNatClampNeg; let f_12 : Int32 := f_10 + f_11; let f_19 : Int32 := (let f_13 : Int32 := upd (M 12) k.toNatClampNeg f_12 k.toNatClampNeg; let f_14 : Int32 := M 5 f_3.toNatClampNeg; if f_13 ≤ f_14 then (0) else (let f_16 : Int32 := upd (M 12) k.toNatClampNeg f_12 k.toNatClampNeg; let f_17 : Int32 := M 5 f_3.toNatClampNeg; let f_18 : Int32 := f_16 - f_17; f_18)); let f_20 : Int32 := (M 0 15) + f_19; let f_31 : Int32 := (if h = 0 then (0) else (let f_22 : Int32 := upd (M 11) k.toNatClampNeg f_5 k.toNatClampNeg; let f_23 : Int32 := f_22 - f_5; if M 0 2 < f_23 then (0) else (let f_25 : Int32 := M 6 f_3.toNatClampNeg; let f_26 : Int32 := M 9 k.toNatClampNeg; let f_27 : Int32 := f_26 - f_26 / 2 * 2; let f_28 : Int32 := f_25 >>> (f_27 &&& 31); let f_29 : Int32 := f_28 &&& 1; if f_29 = 1 then (1) else (0)))); let x_32 : Int32 := k + 1; q_Mod_workOut q n x_32 f_5 f_31 (tb [(tv [M 0 0, M 0 1, M 0 2, M 0 3, M 0 4, M 0 5, M 0 6, M 0 7, M 0 8, M 0 9, M 0 10, M 0 11, M 0 12, M 0 13, M 0 14, f_20]), M 1, M 2, M 3, M 4, M 5, M 6, M 7, M 8, M 9, upd (M 10) k.toNatClampNeg f_5, upd (M 11) k.toNatClampNeg f_5, upd (M 12) k.toNatClampNeg f_12, upd (M 13) k.toNatClampNeg (vp_nar .boolean 0)])) else (let f_33 : Int32 := M 12 f_6.toNatClampNeg; let f_34 : Int32 := M 9 f_6.toNatClampNeg; let f_35 : Int32 := f_34 / 2; let f_36 : Int32 := M 1 f_35.toNatClampNeg; let f_37 : Int32 := 6 * f_36; let f_38 : Int32 := M 1 f_3.toNatClampNeg; let f_39 : Int32 := f_37 + f_38; let f_40 : Int32 := M 7 f_39.toNatClampNeg; let f_47 : Int32 := (if f_40 < 0 then (0) else (let f_42 : Int32 := r_Mod_far (tb [M 0, M 1, M 2, M 3, M 4, M 5, M 6, M 7, M 8, M 9, upd (M 10) k.toNatClampNeg f_5, upd (M 11) k.toNatClampNeg f_5, M 12, upd (M 13) k.toNatClampNeg (vp_nar .boolean 0)]) f_35 f_3; if M 0 6 < f_42 then (0) else (if M 0 5 ≤ f_7 then (0) else (let f_45 : Int32 := f_5 - f_33; if M 0 4 < f_45 then (0) else (1))))); let f_49 : Int32 := (if f_47 = 0 then (1) else (0)); let f_52 : Int32 := (if f_47 = 0 then (let f_51 : Int32 := f_33 + (M 0 3); f_51) else (f_33)); let f_54 : Int32 := (if f_52 ≤ f_5 then (f_5) else (f_52)); let f_56 : Int32 := (if f_47 = 0 then (0) else (f_40)); let f_57 : Int32 := (M 0 13) + f_56; let f_59 : Int32 := (if f_47 = 0 then (1) else (0)); let f_60 : Int32 := (M 0 14) + f_59; let f_61 : Int32 := upd (upd (M 11) k.toNatClampNeg f_5) k.toNatClampNeg f_54 k.toNatClampNeg; let f_62 : Int32 := M 4 f_3.toNatClampNeg; let f_63 : Int32 := f_61 + f_62; let f_70 : Int32 := (let f_64 : Int32 := upd (M 12) k.toNatClampNeg f_63 k.toNatClampNeg; let f_65 : Int32 := M 5 f_3.toNatClampNeg; if f_64 ≤ f_65 then (0) else (let f_67 : Int32 := upd (M 12) k.toNatClampNeg f_63 k.toNatClampNeg; let f_68 : Int32 := M 5 f_3.toNatClampNeg; let f_69 : Int32 := f_67 - f_68; f_69)); let f_71 : Int32 := (M 0 15) + f_70; let f_82 : Int32 := (if h = 0 then (0) else (let f_73 : Int32 := upd (upd (M 11) k.toNatClampNeg f_5) k.toNatClampNeg f_54 k.toNatClampNeg; let f_74 : Int32 := f_73 - f_5; if M 0 2 < f_74 then (0) else (let f_76 : Int32 := M 6 f_3.toNatClampNeg; let f_77 : Int32 := M 9 k.toNatClampNeg; let f_78 : Int32 := f_77 - f_77 / 2 * 2; let f_79 : Int32 := f_76 >>> (f_78 &&& 31); let f_80 : Int32 := f_79 &&& 1; if f_80 = 1 then (1) else (0)))); let x_83 : Int32 := k + 1; q_Mod_workOut q n x_83 f_5 f_82 (tb [(tv [M 0 0, M 0 1, M 0 2, M 0 3, M 0 4, M 0 5, M 0 6, M 0 7, M 0 8, M 0 9, M 0 10, M 0 11, M 0 12, f_57, f_60, f_71]), M 1, M 2, M 3, M 4, M 5, M 6, M 7, M 8, M 9, upd (M 10) k.toNatClampNeg f_5, upd (upd (M 11) k.toNatClampNeg f_5) k.toNatClampNeg f_54, upd (M 12) k.toNatClampNeg f_63, upd (upd (M 13) k.toNatClampNeg (vp_nar .boolean 0)) k.toNatClampNeg (vp_nar .boolean f_49)])))
set_option maxHeartbeats 4000000 in
set_option maxRecDepth 100000 in
theorem lp_Mod_workOut {l : Launch} {D : va_G} {cA cZ cL : ClassId} (a : Nat) (d : Nat → Nat) (q : Int32) (hq : vp_in q 7) {p : Program} {e : Env} {s : State} {m : MethodId} {args : Array Value} {below : List Frame} {meth : Method} {c : Code} {A : Nat → Prop} (hx : p.tables.exec = Jvm.exec) (hb : c.code = c_Mod_workOut) (hr : meth.sig.returnType = (some .boolean)) (hml : c.maxLocals = 13) (hts : ∀ w ∈ base, w.before args s = true) (hown : s.vm.findClass R_Mod = some m.cls) (hlocks : meth.locks = false) (hK : va_K D cls (tys3 cA cZ cL) s) (hZ : hz s) (hA : ∀ q : Nat, s.heap.size ≤ q → A q) :
    ∀ (n : Nat) (k : Int32) (j : Int32) (h : Int32) (M : (Nat → Nat → Int32)), ((0 ≤ k.toInt ∧ k.toInt ≤ 6 ∧ 7 < k.toInt + (n : Int)) ∧ (h = 0 ∨ h = 1) ∧ (∀ j, vp_in (M 1 j) 6) ∧ (∀ j : Nat, (j : Int) < q.toInt → vp_in (M 9 j) 12)) → ∀ (H : Heap) (locs : List Loc), va_P D cls [(a, .inr (4, [.int (M 0 0), .int (M 0 1), .ref (d 1), .ref (d 2), .ref (d 3), .ref (d 4), .ref (d 5), .ref (d 6), .int (M 0 2), .int (M 0 3), .int (M 0 4), .int (M 0 5), .int (M 0 6), .int (M 0 7), .int (M 0 8), .ref (d 7), .int (M 0 9), .int (M 0 10), .int (M 0 11), .int (M 0 12), .ref (d 8), .ref (d 9), .ref (d 10), .ref (d 11), .ref (d 12), .ref (d 13), .int (M 0 13), .int (M 0 14), .int (M 0 15)])), (d 1, .inl (cA, 6, .inl (M 1))), (d 2, .inl (cA, 6, .inl (M 2))), (d 3, .inl (cA, 6, .inl (M 3))), (d 4, .inl (cA, 6, .inl (M 4))), (d 5, .inl (cA, 6, .inl (M 5))), (d 6, .inl (cA, 6, .inl (M 6))), (d 7, .inl (cA, 36, .inl (M 7))), (d 8, .inl (cA, 6, .inl (M 8))), (d 9, .inl (cA, 7, .inl (M 9))), (d 10, .inl (cA, 6, .inl (M 10))), (d 11, .inl (cA, 6, .inl (M 11))), (d 12, .inl (cA, 6, .inl (M 12))), (d 13, .inl (cZ, 6, .inl (M 13)))] H → va_D A [(a, .inr (4, [.int (M 0 0), .int (M 0 1), .ref (d 1), .ref (d 2), .ref (d 3), .ref (d 4), .ref (d 5), .ref (d 6), .int (M 0 2), .int (M 0 3), .int (M 0 4), .int (M 0 5), .int (M 0 6), .int (M 0 7), .int (M 0 8), .ref (d 7), .int (M 0 9), .int (M 0 10), .int (M 0 11), .int (M 0 12), .ref (d 8), .ref (d 9), .ref (d 10), .ref (d 11), .ref (d 12), .ref (d 13), .int (M 0 13), .int (M 0 14), .int (M 0 15)])), (d 1, .inl (cA, 6, .inl (M 1))), (d 2, .inl (cA, 6, .inl (M 2))), (d 3, .inl (cA, 6, .inl (M 3))), (d 4, .inl (cA, 6, .inl (M 4))), (d 5, .inl (cA, 6, .inl (M 5))), (d 6, .inl (cA, 6, .inl (M 6))), (d 7, .inl (cA, 36, .inl (M 7))), (d 8, .inl (cA, 6, .inl (M 8))), (d 9, .inl (cA, 7, .inl (M 9))), (d 10, .inl (cA, 6, .inl (M 10))), (d 11, .inl (cA, 6, .inl (M 11))), (d 12, .inl (cA, 6, .inl (M 12))), (d 13, .inl (cZ, 6, .inl (M 13)))] → va_S A s.heap H locs → ∀ ls : Array Slot, lv_has ls 13 [(4, .int k), (2, .int j), (3, .int h), (0, .ref a), (1, .int q)] → W p l e ({ frames := 1, cells := 0, slots := 0, locals := 22 } : Room) s m args below meth c H locs 0 0 (MQ below (va_Qi (fun r (_ : Unit) => r = (q_Mod_workOut q n k j h M).1) (fun _ => hw_At D cls (tys3 cA cZ cL) A (wMod cA cZ a d ((q_Mod_workOut q n k j h M).2))) A) args s 0 0 A) (F0 m 22 ls []) := by
  intro n
  induction n with
  | zero =>
    intro k j h M hi
    exact absurd hi (by rintro ⟨h, -⟩; omega)
  | succ n ih =>
    intro k j h M hi H locs hP hD hS ls hl
    have hG := hi.2.2.1
    have hw := hi.2.2.2
    refine lv_iload hx hb d_Mod_workOut_22 (lv_at hl 0 rfl) ?_
    refine lv_iload_n hx hb d_Mod_workOut_24 rfl (lv_at hl 4 rfl) ?_
    refine lv_icmp_ge (tgt := 458) hx hb d_Mod_workOut_25 (by decide) (fun c_1 => ?_) (fun c_1 => ?_)
    · skip
      refine lv_iload_n hx hb d_Mod_workOut_458 rfl (lv_at hl 2 rfl) ?_
      have e9 : q_Mod_workOut q (n + 1) k j h M = (h, M) := by
        rw [q_Mod_workOut]; simp only [if_pos c_1]
      exact W.zret (v := h) hx hb hr (bool_nar (by exact hi.2.1)) (fun t ht hW => ⟨⟨_, (), rfl, (by rw [e9]), (by rw [e9, ht]; exact hP.sub [0, 1, 2, 3, 4, 5, 6, 7, 8, 9, 10, 11, 12, 13] rfl), (by rw [e9]; exact hD.sub [0, 1, 2, 3, 4, 5, 6, 7, 8, 9, 10, 11, 12, 13] (by decide) rfl)⟩, hS.F ht⟩) hS.2.2 d_Mod_workOut_459
    · skip
      have hkq := lt_of c_1
      have hk6 : vp_in k 6 := in_lt7 hq hi.1.1 c_1
      have hh6 : vp_in (M 9 k.toNatClampNeg / 2) 6 := half6 (hw _ (cl_lt hk6 hkq))
      refine lv_aload_n hx hb d_Mod_workOut_28 rfl (lv_at hl 3 rfl) ?_
      refine va_get (D := D) (ci := 4) (v := .ref (d 9)) (C := R_Mod) (T := T_Mod) (N := 29) hx hb hts i_Mod hown hK hP 0 rfl rfl 21 (by decide) (hts _ mb_544) (fun _ h9 => h9) rfl d_Mod_workOut_29 ?_
      refine lv_iload hx hb d_Mod_workOut_32 (lv_at hl 0 rfl) ?_
      refine va_iald hx hb hK hP 9 0 rfl rfl (in_le hk6 (by decide)) d_Mod_workOut_34 ?_
      refine lv_topi (fun f_2 ef_2 => ?_)
      refine lv_iconst (v := 2) hx hb d_Mod_workOut_35 (by decide) ?_
      refine lv_idiv hx hb d_Mod_workOut_36 (by decide) ?_
      refine lv_topi (fun f_3 ef_3 => ?_)
      refine lv_istore (lv' := [(5, .int f_3), (4, .int k), (2, .int j), (3, .int h), (0, .ref a), (1, .int q)]) hx hb d_Mod_workOut_37 hl (by decide) rfl (fun ls hl => ?_)
      refine lv_iload_n hx hb d_Mod_workOut_39 rfl (lv_at hl 2 rfl) ?_
      refine lv_aload_n hx hb d_Mod_workOut_40 rfl (lv_at hl 4 rfl) ?_
      refine va_get (D := D) (ci := 4) (v := .ref (d 3)) (C := R_Mod) (T := T_Mod) (N := 29) hx hb hts i_Mod hown hK hP 0 rfl rfl 4 (by decide) (hts _ mb_527) (fun _ h9 => h9) rfl d_Mod_workOut_41 ?_
      refine lv_iload hx hb d_Mod_workOut_44 (lv_at hl 0 rfl) ?_
      refine va_iald hx hb hK hP 3 0 rfl rfl (by rw [ef_3, ef_2]; exact hh6) d_Mod_workOut_46 ?_
      refine lv_topi (fun f_4 ef_4 => ?_)
      refine lv_iadd hx hb d_Mod_workOut_47 ?_
      refine lv_topi (fun f_5 ef_5 => ?_)
      refine lv_istore_n (lv' := [(2, .int f_5), (5, .int f_3), (4, .int k), (3, .int h), (0, .ref a), (1, .int q)]) hx hb d_Mod_workOut_48 rfl hl (by decide) rfl (fun ls hl => ?_)
      refine lv_aload_n hx hb d_Mod_workOut_49 rfl (lv_at hl 4 rfl) ?_
      refine va_get (D := D) (ci := 4) (v := .ref (d 10)) (C := R_Mod) (T := T_Mod) (N := 29) hx hb hts i_Mod hown hK hP 0 rfl rfl 22 (by decide) (hts _ mb_545) (fun _ h9 => h9) rfl d_Mod_workOut_50 ?_
      refine lv_iload hx hb d_Mod_workOut_53 (lv_at hl 2 rfl) ?_
      refine lv_iload_n hx hb d_Mod_workOut_55 rfl (lv_at hl 0 rfl) ?_
      refine va_iast hx hb hK hP hD hS 10 0 rfl rfl hk6 d_Mod_workOut_56 (fun H locs hP hD hS => ?_)
      have hP : va_P D cls [(a, .inr (4, [.int (M 0 0), .int (M 0 1), .ref (d 1), .ref (d 2), .ref (d 3), .ref (d 4), .ref (d 5), .ref (d 6), .int (M 0 2), .int (M 0 3), .int (M 0 4), .int (M 0 5), .int (M 0 6), .int (M 0 7), .int (M 0 8), .ref (d 7), .int (M 0 9), .int (M 0 10), .int (M 0 11), .int (M 0 12), .ref (d 8), .ref (d 9), .ref (d 10), .ref (d 11), .ref (d 12), .ref (d 13), .int (M 0 13), .int (M 0 14), .int (M 0 15)])), (d 1, .inl (cA, 6, .inl (M 1))), (d 2, .inl (cA, 6, .inl (M 2))), (d 3, .inl (cA, 6, .inl (M 3))), (d 4, .inl (cA, 6, .inl (M 4))), (d 5, .inl (cA, 6, .inl (M 5))), (d 6, .inl (cA, 6, .inl (M 6))), (d 7, .inl (cA, 36, .inl (M 7))), (d 8, .inl (cA, 6, .inl (M 8))), (d 9, .inl (cA, 7, .inl (M 9))), (d 10, .inl (cA, 6, .inl (upd (M 10) k.toNatClampNeg f_5))), (d 11, .inl (cA, 6, .inl (M 11))), (d 12, .inl (cA, 6, .inl (M 12))), (d 13, .inl (cZ, 6, .inl (M 13)))] H := hP
      have hD : va_D A [(a, .inr (4, [.int (M 0 0), .int (M 0 1), .ref (d 1), .ref (d 2), .ref (d 3), .ref (d 4), .ref (d 5), .ref (d 6), .int (M 0 2), .int (M 0 3), .int (M 0 4), .int (M 0 5), .int (M 0 6), .int (M 0 7), .int (M 0 8), .ref (d 7), .int (M 0 9), .int (M 0 10), .int (M 0 11), .int (M 0 12), .ref (d 8), .ref (d 9), .ref (d 10), .ref (d 11), .ref (d 12), .ref (d 13), .int (M 0 13), .int (M 0 14), .int (M 0 15)])), (d 1, .inl (cA, 6, .inl (M 1))), (d 2, .inl (cA, 6, .inl (M 2))), (d 3, .inl (cA, 6, .inl (M 3))), (d 4, .inl (cA, 6, .inl (M 4))), (d 5, .inl (cA, 6, .inl (M 5))), (d 6, .inl (cA, 6, .inl (M 6))), (d 7, .inl (cA, 36, .inl (M 7))), (d 8, .inl (cA, 6, .inl (M 8))), (d 9, .inl (cA, 7, .inl (M 9))), (d 10, .inl (cA, 6, .inl (upd (M 10) k.toNatClampNeg f_5))), (d 11, .inl (cA, 6, .inl (M 11))), (d 12, .inl (cA, 6, .inl (M 12))), (d 13, .inl (cZ, 6, .inl (M 13)))] := hD
      refine lv_iconst (v := (-1)) hx hb d_Mod_workOut_57 (by decide) ?_
      refine lv_istore (lv' := [(6, .int (-1)), (2, .int f_5), (5, .int f_3), (4, .int k), (3, .int h), (0, .ref a), (1, .int q)]) hx hb d_Mod_workOut_58 hl (by decide) rfl (fun ls hl => ?_)
      refine lv_iconst (v := 0) hx hb d_Mod_workOut_60 (by decide) ?_
      refine lv_istore (lv' := [(7, .int 0), (6, .int (-1)), (2, .int f_5), (5, .int f_3), (4, .int k), (3, .int h), (0, .ref a), (1, .int q)]) hx hb d_Mod_workOut_61 hl (by decide) rfl (fun ls hl => ?_)
      refine lv_iconst (v := 0) hx hb d_Mod_workOut_63 (by decide) ?_
      refine lv_istore (lv' := [(8, .int 0), (7, .int 0), (6, .int (-1)), (2, .int f_5), (5, .int f_3), (4, .int k), (3, .int h), (0, .ref a), (1, .int q)]) hx hb d_Mod_workOut_64 hl (by decide) rfl (fun ls hl => ?_)
      refine lb_Mod_workOut_66 hx hb hts hown hK hk6 (hP.sub (ws' := wMod cA cZ a d (tb [M 0, M 1, M 2, M 3, M 4, M 5, M 6, M 7, M 8, M 9, upd (M 10) k.toNatClampNeg f_5, M 11, M 12, M 13])) [0, 1, 2, 3, 4, 5, 6, 7, 8, 9, 10, 11, 12, 13] rfl) 8 0 (-1) 0 ⟨by decide, Or.inl rfl⟩ (fun f_6 f_7 ls ef_6 ef_7 hE_8 hl => ?_) _ (lv_sub hl [0, 2, 1, 7, 8, 3, 6, 5, 4] rfl)
      refine lv_aload_n hx hb d_Mod_workOut_129 rfl (lv_at hl 2 rfl) ?_
      refine va_get (D := D) (ci := 4) (v := .ref (d 13)) (C := R_Mod) (T := T_Mod) (N := 29) hx hb hts i_Mod hown hK hP 0 rfl rfl 25 (by decide) (hts _ mb_548) (fun _ h9 => h9) rfl d_Mod_workOut_130 ?_
      refine lv_iload hx hb d_Mod_workOut_133 (lv_at hl 6 rfl) ?_
      refine lv_iconst (v := 0) hx hb d_Mod_workOut_135 (by decide) ?_
      refine va_zast hx hb hK hP hD hS 13 1 rfl rfl hk6 d_Mod_workOut_136 (fun H locs hP hD hS => ?_)
      have hP : va_P D cls [(a, .inr (4, [.int (M 0 0), .int (M 0 1), .ref (d 1), .ref (d 2), .ref (d 3), .ref (d 4), .ref (d 5), .ref (d 6), .int (M 0 2), .int (M 0 3), .int (M 0 4), .int (M 0 5), .int (M 0 6), .int (M 0 7), .int (M 0 8), .ref (d 7), .int (M 0 9), .int (M 0 10), .int (M 0 11), .int (M 0 12), .ref (d 8), .ref (d 9), .ref (d 10), .ref (d 11), .ref (d 12), .ref (d 13), .int (M 0 13), .int (M 0 14), .int (M 0 15)])), (d 1, .inl (cA, 6, .inl (M 1))), (d 2, .inl (cA, 6, .inl (M 2))), (d 3, .inl (cA, 6, .inl (M 3))), (d 4, .inl (cA, 6, .inl (M 4))), (d 5, .inl (cA, 6, .inl (M 5))), (d 6, .inl (cA, 6, .inl (M 6))), (d 7, .inl (cA, 36, .inl (M 7))), (d 8, .inl (cA, 6, .inl (M 8))), (d 9, .inl (cA, 7, .inl (M 9))), (d 10, .inl (cA, 6, .inl (upd (M 10) k.toNatClampNeg f_5))), (d 11, .inl (cA, 6, .inl (M 11))), (d 12, .inl (cA, 6, .inl (M 12))), (d 13, .inl (cZ, 6, .inl (upd (M 13) k.toNatClampNeg (vp_nar .boolean 0))))] H := hP
      have hD : va_D A [(a, .inr (4, [.int (M 0 0), .int (M 0 1), .ref (d 1), .ref (d 2), .ref (d 3), .ref (d 4), .ref (d 5), .ref (d 6), .int (M 0 2), .int (M 0 3), .int (M 0 4), .int (M 0 5), .int (M 0 6), .int (M 0 7), .int (M 0 8), .ref (d 7), .int (M 0 9), .int (M 0 10), .int (M 0 11), .int (M 0 12), .ref (d 8), .ref (d 9), .ref (d 10), .ref (d 11), .ref (d 12), .ref (d 13), .int (M 0 13), .int (M 0 14), .int (M 0 15)])), (d 1, .inl (cA, 6, .inl (M 1))), (d 2, .inl (cA, 6, .inl (M 2))), (d 3, .inl (cA, 6, .inl (M 3))), (d 4, .inl (cA, 6, .inl (M 4))), (d 5, .inl (cA, 6, .inl (M 5))), (d 6, .inl (cA, 6, .inl (M 6))), (d 7, .inl (cA, 36, .inl (M 7))), (d 8, .inl (cA, 6, .inl (M 8))), (d 9, .inl (cA, 7, .inl (M 9))), (d 10, .inl (cA, 6, .inl (upd (M 10) k.toNatClampNeg f_5))), (d 11, .inl (cA, 6, .inl (M 11))), (d 12, .inl (cA, 6, .inl (M 12))), (d 13, .inl (cZ, 6, .inl (upd (M 13) k.toNatClampNeg (vp_nar .boolean 0))))] := hD
      refine lv_aload_n hx hb d_Mod_workOut_137 rfl (lv_at hl 2 rfl) ?_
      refine va_get (D := D) (ci := 4) (v := .ref (d 11)) (C := R_Mod) (T := T_Mod) (N := 29) hx hb hts i_Mod hown hK hP 0 rfl rfl 23 (by decide) (hts _ mb_546) (fun _ h9 => h9) rfl d_Mod_workOut_138 ?_
      refine lv_iload hx hb d_Mod_workOut_141 (lv_at hl 6 rfl) ?_
      refine lv_iload_n hx hb d_Mod_workOut_143 rfl (lv_at hl 4 rfl) ?_
      refine va_iast hx hb hK hP hD hS 11 0 rfl rfl hk6 d_Mod_workOut_144 (fun H locs hP hD hS => ?_)
      have hP : va_P D cls [(a, .inr (4, [.int (M 0 0), .int (M 0 1), .ref (d 1), .ref (d 2), .ref (d 3), .ref (d 4), .ref (d 5), .ref (d 6), .int (M 0 2), .int (M 0 3), .int (M 0 4), .int (M 0 5), .int (M 0 6), .int (M 0 7), .int (M 0 8), .ref (d 7), .int (M 0 9), .int (M 0 10), .int (M 0 11), .int (M 0 12), .ref (d 8), .ref (d 9), .ref (d 10), .ref (d 11), .ref (d 12), .ref (d 13), .int (M 0 13), .int (M 0 14), .int (M 0 15)])), (d 1, .inl (cA, 6, .inl (M 1))), (d 2, .inl (cA, 6, .inl (M 2))), (d 3, .inl (cA, 6, .inl (M 3))), (d 4, .inl (cA, 6, .inl (M 4))), (d 5, .inl (cA, 6, .inl (M 5))), (d 6, .inl (cA, 6, .inl (M 6))), (d 7, .inl (cA, 36, .inl (M 7))), (d 8, .inl (cA, 6, .inl (M 8))), (d 9, .inl (cA, 7, .inl (M 9))), (d 10, .inl (cA, 6, .inl (upd (M 10) k.toNatClampNeg f_5))), (d 11, .inl (cA, 6, .inl (upd (M 11) k.toNatClampNeg f_5))), (d 12, .inl (cA, 6, .inl (M 12))), (d 13, .inl (cZ, 6, .inl (upd (M 13) k.toNatClampNeg (vp_nar .boolean 0))))] H := hP
      have hD : va_D A [(a, .inr (4, [.int (M 0 0), .int (M 0 1), .ref (d 1), .ref (d 2), .ref (d 3), .ref (d 4), .ref (d 5), .ref (d 6), .int (M 0 2), .int (M 0 3), .int (M 0 4), .int (M 0 5), .int (M 0 6), .int (M 0 7), .int (M 0 8), .ref (d 7), .int (M 0 9), .int (M 0 10), .int (M 0 11), .int (M 0 12), .ref (d 8), .ref (d 9), .ref (d 10), .ref (d 11), .ref (d 12), .ref (d 13), .int (M 0 13), .int (M 0 14), .int (M 0 15)])), (d 1, .inl (cA, 6, .inl (M 1))), (d 2, .inl (cA, 6, .inl (M 2))), (d 3, .inl (cA, 6, .inl (M 3))), (d 4, .inl (cA, 6, .inl (M 4))), (d 5, .inl (cA, 6, .inl (M 5))), (d 6, .inl (cA, 6, .inl (M 6))), (d 7, .inl (cA, 36, .inl (M 7))), (d 8, .inl (cA, 6, .inl (M 8))), (d 9, .inl (cA, 7, .inl (M 9))), (d 10, .inl (cA, 6, .inl (upd (M 10) k.toNatClampNeg f_5))), (d 11, .inl (cA, 6, .inl (upd (M 11) k.toNatClampNeg f_5))), (d 12, .inl (cA, 6, .inl (M 12))), (d 13, .inl (cZ, 6, .inl (upd (M 13) k.toNatClampNeg (vp_nar .boolean 0))))] := hD
      refine lv_iload hx hb d_Mod_workOut_145 (lv_at hl 0 rfl) ?_
      refine lv_if_lt (tgt := 336) hx hb d_Mod_workOut_147 (by decide) (fun c_9 => ?_) (fun c_9 => ?_)
      · skip
        refine lv_aload_n hx hb d_Mod_workOut_336 rfl (lv_at hl 2 rfl) ?_
        refine va_get (D := D) (ci := 4) (v := .ref (d 12)) (C := R_Mod) (T := T_Mod) (N := 29) hx hb hts i_Mod hown hK hP 0 rfl rfl 24 (by decide) (hts _ mb_547) (fun _ h9 => h9) rfl d_Mod_workOut_337 ?_
        refine lv_iload hx hb d_Mod_workOut_340 (lv_at hl 6 rfl) ?_
        refine lv_aload_n hx hb d_Mod_workOut_342 rfl (lv_at hl 2 rfl) ?_
        refine va_get (D := D) (ci := 4) (v := .ref (d 11)) (C := R_Mod) (T := T_Mod) (N := 29) hx hb hts i_Mod hown hK hP 0 rfl rfl 23 (by decide) (hts _ mb_546) (fun _ h9 => h9) rfl d_Mod_workOut_343 ?_
        refine lv_iload hx hb d_Mod_workOut_346 (lv_at hl 6 rfl) ?_
        refine va_iald hx hb hK hP 11 0 rfl rfl hk6 d_Mod_workOut_348 ?_
        refine lv_topi (fun f_10 ef_10 => ?_)
        refine lv_aload_n hx hb d_Mod_workOut_349 rfl (lv_at hl 2 rfl) ?_
        refine va_get (D := D) (ci := 4) (v := .ref (d 4)) (C := R_Mod) (T := T_Mod) (N := 29) hx hb hts i_Mod hown hK hP 0 rfl rfl 5 (by decide) (hts _ mb_528) (fun _ h9 => h9) rfl d_Mod_workOut_350 ?_
        refine lv_iload hx hb d_Mod_workOut_353 (lv_at hl 7 rfl) ?_
        refine va_iald hx hb hK hP 4 0 rfl rfl (by rw [ef_3, ef_2]; exact hh6) d_Mod_workOut_355 ?_
        refine lv_topi (fun f_11 ef_11 => ?_)
        refine lv_iadd hx hb d_Mod_workOut_356 ?_
        refine lv_topi (fun f_12 ef_12 => ?_)
        refine va_iast hx hb hK hP hD hS 12 0 rfl rfl hk6 d_Mod_workOut_357 (fun H locs hP hD hS => ?_)
        have hP : va_P D cls [(a, .inr (4, [.int (M 0 0), .int (M 0 1), .ref (d 1), .ref (d 2), .ref (d 3), .ref (d 4), .ref (d 5), .ref (d 6), .int (M 0 2), .int (M 0 3), .int (M 0 4), .int (M 0 5), .int (M 0 6), .int (M 0 7), .int (M 0 8), .ref (d 7), .int (M 0 9), .int (M 0 10), .int (M 0 11), .int (M 0 12), .ref (d 8), .ref (d 9), .ref (d 10), .ref (d 11), .ref (d 12), .ref (d 13), .int (M 0 13), .int (M 0 14), .int (M 0 15)])), (d 1, .inl (cA, 6, .inl (M 1))), (d 2, .inl (cA, 6, .inl (M 2))), (d 3, .inl (cA, 6, .inl (M 3))), (d 4, .inl (cA, 6, .inl (M 4))), (d 5, .inl (cA, 6, .inl (M 5))), (d 6, .inl (cA, 6, .inl (M 6))), (d 7, .inl (cA, 36, .inl (M 7))), (d 8, .inl (cA, 6, .inl (M 8))), (d 9, .inl (cA, 7, .inl (M 9))), (d 10, .inl (cA, 6, .inl (upd (M 10) k.toNatClampNeg f_5))), (d 11, .inl (cA, 6, .inl (upd (M 11) k.toNatClampNeg f_5))), (d 12, .inl (cA, 6, .inl (upd (M 12) k.toNatClampNeg f_12))), (d 13, .inl (cZ, 6, .inl (upd (M 13) k.toNatClampNeg (vp_nar .boolean 0))))] H := hP
        have hD : va_D A [(a, .inr (4, [.int (M 0 0), .int (M 0 1), .ref (d 1), .ref (d 2), .ref (d 3), .ref (d 4), .ref (d 5), .ref (d 6), .int (M 0 2), .int (M 0 3), .int (M 0 4), .int (M 0 5), .int (M 0 6), .int (M 0 7), .int (M 0 8), .ref (d 7), .int (M 0 9), .int (M 0 10), .int (M 0 11), .int (M 0 12), .ref (d 8), .ref (d 9), .ref (d 10), .ref (d 11), .ref (d 12), .ref (d 13), .int (M 0 13), .int (M 0 14), .int (M 0 15)])), (d 1, .inl (cA, 6, .inl (M 1))), (d 2, .inl (cA, 6, .inl (M 2))), (d 3, .inl (cA, 6, .inl (M 3))), (d 4, .inl (cA, 6, .inl (M 4))), (d 5, .inl (cA, 6, .inl (M 5))), (d 6, .inl (cA, 6, .inl (M 6))), (d 7, .inl (cA, 36, .inl (M 7))), (d 8, .inl (cA, 6, .inl (M 8))), (d 9, .inl (cA, 7, .inl (M 9))), (d 10, .inl (cA, 6, .inl (upd (M 10) k.toNatClampNeg f_5))), (d 11, .inl (cA, 6, .inl (upd (M 11) k.toNatClampNeg f_5))), (d 12, .inl (cA, 6, .inl (upd (M 12) k.toNatClampNeg f_12))), (d 13, .inl (cZ, 6, .inl (upd (M 13) k.toNatClampNeg (vp_nar .boolean 0))))] := hD
        refine lv_aload_n hx hb d_Mod_workOut_358 rfl (lv_at hl 2 rfl) ?_
        refine lv_dup hx hb d_Mod_workOut_359 rfl ?_
        refine va_get (D := D) (ci := 4) (v := .int (M 0 15)) (C := R_Mod) (T := T_Mod) (N := 29) hx hb hts i_Mod hown hK hP 0 rfl rfl 28 (by decide) (hts _ mb_551) (fun _ h9 => h9) rfl d_Mod_workOut_360 ?_
        refine jn 399 [.int (M 0 15), .ref a] 13 [(6, .int f_6), (7, .int f_7), (0, .ref a), (1, .int q), (2, .int f_5), (3, .int h), (4, .int k), (5, .int f_3)] (let f_13 : Int32 := upd (M 12) k.toNatClampNeg f_12 k.toNatClampNeg; let f_14 : Int32 := M 5 f_3.toNatClampNeg; if f_13 ≤ f_14 then (0) else (let f_16 : Int32 := upd (M 12) k.toNatClampNeg f_12 k.toNatClampNeg; let f_17 : Int32 := M 5 f_3.toNatClampNeg; let f_18 : Int32 := f_16 - f_17; f_18)) (fun f_19 ls ef_19 hl => ?_) (fun J => ?_)
        · skip
          refine lv_iadd hx hb d_Mod_workOut_399 ?_
          refine lv_topi (fun f_20 ef_20 => ?_)
          refine va_put (D := D) (ci := 4) (v := .int f_20) (ty := .int) (C := R_Mod) (T := T_Mod) (N := 29) hx hb hts i_Mod t_Mod t_Mod_ok n_Mod hown hK hP hD hS 0 rfl rfl 28 (by decide) (hts _ mb_551) (fun _ h9 => h9) rfl (by decide +kernel) rfl rfl (Nat.le_of_ble_eq_true rfl) d_Mod_workOut_400 (fun H locs hP hD hS => ?_)
          have hP : va_P D cls [(a, .inr (4, [.int (M 0 0), .int (M 0 1), .ref (d 1), .ref (d 2), .ref (d 3), .ref (d 4), .ref (d 5), .ref (d 6), .int (M 0 2), .int (M 0 3), .int (M 0 4), .int (M 0 5), .int (M 0 6), .int (M 0 7), .int (M 0 8), .ref (d 7), .int (M 0 9), .int (M 0 10), .int (M 0 11), .int (M 0 12), .ref (d 8), .ref (d 9), .ref (d 10), .ref (d 11), .ref (d 12), .ref (d 13), .int (M 0 13), .int (M 0 14), .int f_20])), (d 1, .inl (cA, 6, .inl (M 1))), (d 2, .inl (cA, 6, .inl (M 2))), (d 3, .inl (cA, 6, .inl (M 3))), (d 4, .inl (cA, 6, .inl (M 4))), (d 5, .inl (cA, 6, .inl (M 5))), (d 6, .inl (cA, 6, .inl (M 6))), (d 7, .inl (cA, 36, .inl (M 7))), (d 8, .inl (cA, 6, .inl (M 8))), (d 9, .inl (cA, 7, .inl (M 9))), (d 10, .inl (cA, 6, .inl (upd (M 10) k.toNatClampNeg f_5))), (d 11, .inl (cA, 6, .inl (upd (M 11) k.toNatClampNeg f_5))), (d 12, .inl (cA, 6, .inl (upd (M 12) k.toNatClampNeg f_12))), (d 13, .inl (cZ, 6, .inl (upd (M 13) k.toNatClampNeg (vp_nar .boolean 0))))] H := hP
          have hD : va_D A [(a, .inr (4, [.int (M 0 0), .int (M 0 1), .ref (d 1), .ref (d 2), .ref (d 3), .ref (d 4), .ref (d 5), .ref (d 6), .int (M 0 2), .int (M 0 3), .int (M 0 4), .int (M 0 5), .int (M 0 6), .int (M 0 7), .int (M 0 8), .ref (d 7), .int (M 0 9), .int (M 0 10), .int (M 0 11), .int (M 0 12), .ref (d 8), .ref (d 9), .ref (d 10), .ref (d 11), .ref (d 12), .ref (d 13), .int (M 0 13), .int (M 0 14), .int f_20])), (d 1, .inl (cA, 6, .inl (M 1))), (d 2, .inl (cA, 6, .inl (M 2))), (d 3, .inl (cA, 6, .inl (M 3))), (d 4, .inl (cA, 6, .inl (M 4))), (d 5, .inl (cA, 6, .inl (M 5))), (d 6, .inl (cA, 6, .inl (M 6))), (d 7, .inl (cA, 36, .inl (M 7))), (d 8, .inl (cA, 6, .inl (M 8))), (d 9, .inl (cA, 7, .inl (M 9))), (d 10, .inl (cA, 6, .inl (upd (M 10) k.toNatClampNeg f_5))), (d 11, .inl (cA, 6, .inl (upd (M 11) k.toNatClampNeg f_5))), (d 12, .inl (cA, 6, .inl (upd (M 12) k.toNatClampNeg f_12))), (d 13, .inl (cZ, 6, .inl (upd (M 13) k.toNatClampNeg (vp_nar .boolean 0))))] := hD
          refine jn 451 [] 13 [(6, .int f_6), (7, .int f_7), (0, .ref a), (1, .int q), (2, .int f_5), (3, .int h), (4, .int k), (5, .int f_3)] (if h = 0 then (0) else (let f_22 : Int32 := upd (M 11) k.toNatClampNeg f_5 k.toNatClampNeg; let f_23 : Int32 := f_22 - f_5; if M 0 2 < f_23 then (0) else (let f_25 : Int32 := M 6 f_3.toNatClampNeg; let f_26 : Int32 := M 9 k.toNatClampNeg; let f_27 : Int32 := f_26 - f_26 / 2 * 2; let f_28 : Int32 := f_25 >>> (f_27 &&& 31); let f_29 : Int32 := f_28 &&& 1; if f_29 = 1 then (1) else (0)))) (fun f_31 ls ef_31 hl => ?_) (fun J => ?_)
          · skip
            refine lv_istore_n (lv' := [(3, .int f_31), (6, .int f_6), (7, .int f_7), (0, .ref a), (1, .int q), (2, .int f_5), (4, .int k), (5, .int f_3)]) hx hb d_Mod_workOut_451 rfl hl (by decide) rfl (fun ls hl => ?_)
            obtain ⟨x_32, ex_32⟩ : ∃ y : Int32, y = k + 1 := ⟨_, rfl⟩
            refine lv_iinc (v := x_32) (lv' := [(4, .int x_32), (3, .int f_31), (6, .int f_6), (7, .int f_7), (0, .ref a), (1, .int q), (2, .int f_5), (5, .int f_3)]) hx hb d_Mod_workOut_452 hl (k := 6) rfl (by rw [ex_32]; rfl) (by decide) rfl (fun ls hl => ?_)
            refine lv_goto (tgt := 22) hx hb d_Mod_workOut_455 (by decide) ?_
            have e9 : q_Mod_workOut q (n + 1) k j h M = q_Mod_workOut q n x_32 f_5 f_31 (tb [(tv [M 0 0, M 0 1, M 0 2, M 0 3, M 0 4, M 0 5, M 0 6, M 0 7, M 0 8, M 0 9, M 0 10, M 0 11, M 0 12, M 0 13, M 0 14, f_20]), M 1, M 2, M 3, M 4, M 5, M 6, M 7, M 8, M 9, upd (M 10) k.toNatClampNeg f_5, upd (M 11) k.toNatClampNeg f_5, upd (M 12) k.toNatClampNeg f_12, upd (M 13) k.toNatClampNeg (vp_nar .boolean 0)]) := by
              subst ef_2 ef_3 ef_4 ef_5 ef_6 ef_7 ef_10 ef_11 ef_12 ef_19 ef_20 ef_31 ex_32; rw [q_Mod_workOut]; simp only [if_neg c_1, if_pos c_9]
            rw [e9]
            exact ih x_32 f_5 f_31 (tb [(tv [M 0 0, M 0 1, M 0 2, M 0 3, M 0 4, M 0 5, M 0 6, M 0 7, M 0 8, M 0 9, M 0 10, M 0 11, M 0 12, M 0 13, M 0 14, f_20]), M 1, M 2, M 3, M 4, M 5, M 6, M 7, M 8, M 9, upd (M 10) k.toNatClampNeg f_5, upd (M 11) k.toNatClampNeg f_5, upd (M 12) k.toNatClampNeg f_12, upd (M 13) k.toNatClampNeg (vp_nar .boolean 0)]) ⟨by rw [ex_32, toInt_s hk6 (by decide)]; have h8 := vp_in_iff.mp hk6; omega, by rw [ef_31]; dsimp only; (repeat' split) <;> (first | exact Or.inl rfl | exact Or.inr rfl), hi.2.2.1, hi.2.2.2⟩ _ _ (hP.sub [0, 1, 2, 3, 4, 5, 6, 7, 8, 9, 10, 11, 12, 13] rfl) (hD.sub [0, 1, 2, 3, 4, 5, 6, 7, 8, 9, 10, 11, 12, 13] (by decide) rfl) hS _ (lv_sub hl [0, 6, 1, 4, 5] rfl)
          · skip
            refine lv_iload_n hx hb d_Mod_workOut_403 rfl (lv_at hl 5 rfl) ?_
            refine lv_if_eq (tgt := 450) hx hb d_Mod_workOut_404 (by decide) (fun c_21 => ?_) (fun c_21 => ?_)
            · skip
              refine lv_iconst (v := 0) hx hb d_Mod_workOut_450 (by decide) ?_
              exact J _ _ (by simp only [if_pos c_21]) (lv_sub hl [0, 1, 2, 3, 4, 5, 6, 7] rfl)
            · skip
              refine lv_aload_n hx hb d_Mod_workOut_407 rfl (lv_at hl 2 rfl) ?_
              refine va_get (D := D) (ci := 4) (v := .ref (d 11)) (C := R_Mod) (T := T_Mod) (N := 29) hx hb hts i_Mod hown hK hP 0 rfl rfl 23 (by decide) (hts _ mb_546) (fun _ h9 => h9) rfl d_Mod_workOut_408 ?_
              refine lv_iload hx hb d_Mod_workOut_411 (lv_at hl 6 rfl) ?_
              refine va_iald hx hb hK hP 11 0 rfl rfl hk6 d_Mod_workOut_413 ?_
              refine lv_topi (fun f_22 ef_22 => ?_)
              refine lv_iload_n hx hb d_Mod_workOut_414 rfl (lv_at hl 4 rfl) ?_
              refine lv_isub hx hb d_Mod_workOut_415 ?_
              refine lv_topi (fun f_23 ef_23 => ?_)
              refine lv_aload_n hx hb d_Mod_workOut_416 rfl (lv_at hl 2 rfl) ?_
              refine va_get (D := D) (ci := 4) (v := .int (M 0 2)) (C := R_Mod) (T := T_Mod) (N := 29) hx hb hts i_Mod hown hK hP 0 rfl rfl 8 (by decide) (hts _ mb_531) (fun _ h9 => h9) rfl d_Mod_workOut_417 ?_
              refine lv_icmp_gt (tgt := 450) hx hb d_Mod_workOut_420 (by decide) (fun c_24 => ?_) (fun c_24 => ?_)
              · skip
                refine lv_iconst (v := 0) hx hb d_Mod_workOut_450 (by decide) ?_
                exact J _ _ (by subst ef_22 ef_23; simp only [if_neg c_21, if_pos c_24]) (lv_sub hl [0, 1, 2, 3, 4, 5, 6, 7] rfl)
              · skip
                refine lv_aload_n hx hb d_Mod_workOut_423 rfl (lv_at hl 2 rfl) ?_
                refine va_get (D := D) (ci := 4) (v := .ref (d 6)) (C := R_Mod) (T := T_Mod) (N := 29) hx hb hts i_Mod hown hK hP 0 rfl rfl 7 (by decide) (hts _ mb_530) (fun _ h9 => h9) rfl d_Mod_workOut_424 ?_
                refine lv_iload hx hb d_Mod_workOut_427 (lv_at hl 7 rfl) ?_
                refine va_iald hx hb hK hP 6 0 rfl rfl (by rw [ef_3, ef_2]; exact hh6) d_Mod_workOut_429 ?_
                refine lv_topi (fun f_25 ef_25 => ?_)
                refine lv_aload_n hx hb d_Mod_workOut_430 rfl (lv_at hl 2 rfl) ?_
                refine va_get (D := D) (ci := 4) (v := .ref (d 9)) (C := R_Mod) (T := T_Mod) (N := 29) hx hb hts i_Mod hown hK hP 0 rfl rfl 21 (by decide) (hts _ mb_544) (fun _ h9 => h9) rfl d_Mod_workOut_431 ?_
                refine lv_iload hx hb d_Mod_workOut_434 (lv_at hl 6 rfl) ?_
                refine va_iald hx hb hK hP 9 0 rfl rfl (in_le hk6 (by decide)) d_Mod_workOut_436 ?_
                refine lv_topi (fun f_26 ef_26 => ?_)
                refine lv_iconst (v := 2) hx hb d_Mod_workOut_437 (by decide) ?_
                refine lv_irem hx hb d_Mod_workOut_438 (by decide) ?_
                refine lv_topi (fun f_27 ef_27 => ?_)
                refine lv_ishr hx hb d_Mod_workOut_439 ?_
                refine lv_topi (fun f_28 ef_28 => ?_)
                refine lv_iconst (v := 1) hx hb d_Mod_workOut_440 (by decide) ?_
                refine lv_iand hx hb d_Mod_workOut_441 ?_
                refine lv_topi (fun f_29 ef_29 => ?_)
                refine lv_iconst (v := 1) hx hb d_Mod_workOut_442 (by decide) ?_
                refine lv_icmp_ne (tgt := 450) hx hb d_Mod_workOut_443 (by decide) (fun c_30 => ?_) (fun c_30 => ?_)
                · skip
                  refine lv_iconst (v := 0) hx hb d_Mod_workOut_450 (by decide) ?_
                  exact J _ _ (by subst ef_22 ef_23 ef_25 ef_26 ef_27 ef_28 ef_29; simp only [if_neg c_21, if_neg c_24, if_neg c_30]) (lv_sub hl [0, 1, 2, 3, 4, 5, 6, 7] rfl)
                · skip
                  refine lv_iconst (v := 1) hx hb d_Mod_workOut_446 (by decide) ?_
                  refine lv_goto (tgt := 451) hx hb d_Mod_workOut_447 (by decide) ?_
                  exact J _ _ (by subst ef_22 ef_23 ef_25 ef_26 ef_27 ef_28 ef_29; simp only [if_neg c_21, if_neg c_24, if_pos c_30]) (lv_sub hl [0, 1, 2, 3, 4, 5, 6, 7] rfl)
        · skip
          refine lv_aload_n hx hb d_Mod_workOut_363 rfl (lv_at hl 2 rfl) ?_
          refine va_get (D := D) (ci := 4) (v := .ref (d 12)) (C := R_Mod) (T := T_Mod) (N := 29) hx hb hts i_Mod hown hK hP 0 rfl rfl 24 (by decide) (hts _ mb_547) (fun _ h9 => h9) rfl d_Mod_workOut_364 ?_
          refine lv_iload hx hb d_Mod_workOut_367 (lv_at hl 6 rfl) ?_
          refine va_iald hx hb hK hP 12 0 rfl rfl hk6 d_Mod_workOut_369 ?_
          refine lv_topi (fun f_13 ef_13 => ?_)
          refine lv_aload_n hx hb d_Mod_workOut_370 rfl (lv_at hl 2 rfl) ?_
          refine va_get (D := D) (ci := 4) (v := .ref (d 5)) (C := R_Mod) (T := T_Mod) (N := 29) hx hb hts i_Mod hown hK hP 0 rfl rfl 6 (by decide) (hts _ mb_529) (fun _ h9 => h9) rfl d_Mod_workOut_371 ?_
          refine lv_iload hx hb d_Mod_workOut_374 (lv_at hl 7 rfl) ?_
          refine va_iald hx hb hK hP 5 0 rfl rfl (by rw [ef_3, ef_2]; exact hh6) d_Mod_workOut_376 ?_
          refine lv_topi (fun f_14 ef_14 => ?_)
          refine lv_icmp_le (tgt := 398) hx hb d_Mod_workOut_377 (by decide) (fun c_15 => ?_) (fun c_15 => ?_)
          · skip
            refine lv_iconst (v := 0) hx hb d_Mod_workOut_398 (by decide) ?_
            exact J _ _ (by subst ef_13 ef_14; simp only [if_pos c_15]) (lv_sub hl [0, 1, 2, 3, 4, 5, 6, 7] rfl)
          · skip
            refine lv_aload_n hx hb d_Mod_workOut_380 rfl (lv_at hl 2 rfl) ?_
            refine va_get (D := D) (ci := 4) (v := .ref (d 12)) (C := R_Mod) (T := T_Mod) (N := 29) hx hb hts i_Mod hown hK hP 0 rfl rfl 24 (by decide) (hts _ mb_547) (fun _ h9 => h9) rfl d_Mod_workOut_381 ?_
            refine lv_iload hx hb d_Mod_workOut_384 (lv_at hl 6 rfl) ?_
            refine va_iald hx hb hK hP 12 0 rfl rfl hk6 d_Mod_workOut_386 ?_
            refine lv_topi (fun f_16 ef_16 => ?_)
            refine lv_aload_n hx hb d_Mod_workOut_387 rfl (lv_at hl 2 rfl) ?_
            refine va_get (D := D) (ci := 4) (v := .ref (d 5)) (C := R_Mod) (T := T_Mod) (N := 29) hx hb hts i_Mod hown hK hP 0 rfl rfl 6 (by decide) (hts _ mb_529) (fun _ h9 => h9) rfl d_Mod_workOut_388 ?_
            refine lv_iload hx hb d_Mod_workOut_391 (lv_at hl 7 rfl) ?_
            refine va_iald hx hb hK hP 5 0 rfl rfl (by rw [ef_3, ef_2]; exact hh6) d_Mod_workOut_393 ?_
            refine lv_topi (fun f_17 ef_17 => ?_)
            refine lv_isub hx hb d_Mod_workOut_394 ?_
            refine lv_topi (fun f_18 ef_18 => ?_)
            refine lv_goto (tgt := 399) hx hb d_Mod_workOut_395 (by decide) ?_
            exact J _ _ (by subst ef_13 ef_14 ef_16 ef_17 ef_18; simp only [if_neg c_15]) (lv_sub hl [0, 1, 2, 3, 4, 5, 6, 7] rfl)
      · skip
        have hl6 : vp_in f_6 6 ∧ f_6.toInt < k.toInt := hE_8.resolve_left (fun e8 => by rw [e8] at c_9; exact c_9 (by decide))
        have hb6 : vp_in (M 9 f_6.toNatClampNeg / 2) 6 := half6 (hw _ (cl_lt hl6.1 (Int.lt_trans hl6.2 hkq)))
        refine lv_aload_n hx hb d_Mod_workOut_150 rfl (lv_at hl 2 rfl) ?_
        refine va_get (D := D) (ci := 4) (v := .ref (d 12)) (C := R_Mod) (T := T_Mod) (N := 29) hx hb hts i_Mod hown hK hP 0 rfl rfl 24 (by decide) (hts _ mb_547) (fun _ h9 => h9) rfl d_Mod_workOut_151 ?_
        refine lv_iload hx hb d_Mod_workOut_154 (lv_at hl 0 rfl) ?_
        refine va_iald hx hb hK hP 12 0 rfl rfl hl6.1 d_Mod_workOut_156 ?_
        refine lv_topi (fun f_33 ef_33 => ?_)
        refine lv_istore (lv' := [(8, .int f_33), (6, .int f_6), (7, .int f_7), (0, .ref a), (1, .int q), (2, .int f_5), (3, .int h), (4, .int k), (5, .int f_3)]) hx hb d_Mod_workOut_157 hl (by decide) rfl (fun ls hl => ?_)
        refine lv_aload_n hx hb d_Mod_workOut_159 rfl (lv_at hl 3 rfl) ?_
        refine va_get (D := D) (ci := 4) (v := .ref (d 9)) (C := R_Mod) (T := T_Mod) (N := 29) hx hb hts i_Mod hown hK hP 0 rfl rfl 21 (by decide) (hts _ mb_544) (fun _ h9 => h9) rfl d_Mod_workOut_160 ?_
        refine lv_iload hx hb d_Mod_workOut_163 (lv_at hl 1 rfl) ?_
        refine va_iald hx hb hK hP 9 0 rfl rfl (in_le hl6.1 (by decide)) d_Mod_workOut_165 ?_
        refine lv_topi (fun f_34 ef_34 => ?_)
        refine lv_iconst (v := 2) hx hb d_Mod_workOut_166 (by decide) ?_
        refine lv_idiv hx hb d_Mod_workOut_167 (by decide) ?_
        refine lv_topi (fun f_35 ef_35 => ?_)
        refine lv_istore (lv' := [(9, .int f_35), (8, .int f_33), (6, .int f_6), (7, .int f_7), (0, .ref a), (1, .int q), (2, .int f_5), (3, .int h), (4, .int k), (5, .int f_3)]) hx hb d_Mod_workOut_168 hl (by decide) rfl (fun ls hl => ?_)
        refine lv_aload_n hx hb d_Mod_workOut_170 rfl (lv_at hl 4 rfl) ?_
        refine va_get (D := D) (ci := 4) (v := .ref (d 7)) (C := R_Mod) (T := T_Mod) (N := 29) hx hb hts i_Mod hown hK hP 0 rfl rfl 15 (by decide) (hts _ mb_538) (fun _ h9 => h9) rfl d_Mod_workOut_171 ?_
        refine lv_bipush (v := 6) hx hb d_Mod_workOut_174 (by decide) ?_
        refine lv_aload_n hx hb d_Mod_workOut_176 rfl (lv_at hl 4 rfl) ?_
        refine va_get (D := D) (ci := 4) (v := .ref (d 1)) (C := R_Mod) (T := T_Mod) (N := 29) hx hb hts i_Mod hown hK hP 0 rfl rfl 2 (by decide) (hts _ mb_525) (fun _ h9 => h9) rfl d_Mod_workOut_177 ?_
        refine lv_iload hx hb d_Mod_workOut_180 (lv_at hl 0 rfl) ?_
        refine va_iald hx hb hK hP 1 0 rfl rfl (by rw [ef_35, ef_34]; exact hb6) d_Mod_workOut_182 ?_
        refine lv_topi (fun f_36 ef_36 => ?_)
        refine lv_imul hx hb d_Mod_workOut_183 ?_
        refine lv_topi (fun f_37 ef_37 => ?_)
        refine lv_aload_n hx hb d_Mod_workOut_184 rfl (lv_at hl 4 rfl) ?_
        refine va_get (D := D) (ci := 4) (v := .ref (d 1)) (C := R_Mod) (T := T_Mod) (N := 29) hx hb hts i_Mod hown hK hP 0 rfl rfl 2 (by decide) (hts _ mb_525) (fun _ h9 => h9) rfl d_Mod_workOut_185 ?_
        refine lv_iload hx hb d_Mod_workOut_188 (lv_at hl 9 rfl) ?_
        refine va_iald hx hb hK hP 1 0 rfl rfl (by rw [ef_3, ef_2]; exact hh6) d_Mod_workOut_190 ?_
        refine lv_topi (fun f_38 ef_38 => ?_)
        refine lv_iadd hx hb d_Mod_workOut_191 ?_
        refine lv_topi (fun f_39 ef_39 => ?_)
        refine va_iald hx hb hK hP 7 0 rfl rfl (by rw [ef_39, ef_37, ef_36, ef_35, ef_34, ef_6, ef_5, ef_4, ef_3, ef_2, ef_38]; exact in_66b (hG _) (hG _)) d_Mod_workOut_192 ?_
        refine lv_topi (fun f_40 ef_40 => ?_)
        refine lv_istore (lv' := [(10, .int f_40), (9, .int f_35), (8, .int f_33), (6, .int f_6), (7, .int f_7), (0, .ref a), (1, .int q), (2, .int f_5), (3, .int h), (4, .int k), (5, .int f_3)]) hx hb d_Mod_workOut_193 hl (by decide) rfl (fun ls hl => ?_)
        refine jn 240 [] 13 [(10, .int f_40), (9, .int f_35), (8, .int f_33), (6, .int f_6), (7, .int f_7), (0, .ref a), (1, .int q), (2, .int f_5), (3, .int h), (4, .int k), (5, .int f_3)] (if f_40 < 0 then (0) else (let f_42 : Int32 := r_Mod_far (tb [M 0, M 1, M 2, M 3, M 4, M 5, M 6, M 7, M 8, M 9, upd (M 10) k.toNatClampNeg f_5, upd (M 11) k.toNatClampNeg f_5, M 12, upd (M 13) k.toNatClampNeg (vp_nar .boolean 0)]) f_35 f_3; if M 0 6 < f_42 then (0) else (if M 0 5 ≤ f_7 then (0) else (let f_45 : Int32 := f_5 - f_33; if M 0 4 < f_45 then (0) else (1))))) (fun f_47 ls ef_47 hl => ?_) (fun J => ?_)
        · skip
          refine lv_istore (lv' := [(11, .int f_47), (10, .int f_40), (9, .int f_35), (8, .int f_33), (6, .int f_6), (7, .int f_7), (0, .ref a), (1, .int q), (2, .int f_5), (3, .int h), (4, .int k), (5, .int f_3)]) hx hb d_Mod_workOut_240 hl (by decide) rfl (fun ls hl => ?_)
          refine lv_aload_n hx hb d_Mod_workOut_242 rfl (lv_at hl 6 rfl) ?_
          refine va_get (D := D) (ci := 4) (v := .ref (d 13)) (C := R_Mod) (T := T_Mod) (N := 29) hx hb hts i_Mod hown hK hP 0 rfl rfl 25 (by decide) (hts _ mb_548) (fun _ h9 => h9) rfl d_Mod_workOut_243 ?_
          refine lv_iload hx hb d_Mod_workOut_246 (lv_at hl 10 rfl) ?_
          refine jn 258 [.int k, .ref (d 13)] 13 [(11, .int f_47), (10, .int f_40), (9, .int f_35), (8, .int f_33), (6, .int f_6), (7, .int f_7), (0, .ref a), (1, .int q), (2, .int f_5), (3, .int h), (4, .int k), (5, .int f_3)] (if f_47 = 0 then (1) else (0)) (fun f_49 ls ef_49 hl => ?_) (fun J => ?_)
          · skip
            refine va_zast hx hb hK hP hD hS 13 1 rfl rfl hk6 d_Mod_workOut_258 (fun H locs hP hD hS => ?_)
            have hP : va_P D cls [(a, .inr (4, [.int (M 0 0), .int (M 0 1), .ref (d 1), .ref (d 2), .ref (d 3), .ref (d 4), .ref (d 5), .ref (d 6), .int (M 0 2), .int (M 0 3), .int (M 0 4), .int (M 0 5), .int (M 0 6), .int (M 0 7), .int (M 0 8), .ref (d 7), .int (M 0 9), .int (M 0 10), .int (M 0 11), .int (M 0 12), .ref (d 8), .ref (d 9), .ref (d 10), .ref (d 11), .ref (d 12), .ref (d 13), .int (M 0 13), .int (M 0 14), .int (M 0 15)])), (d 1, .inl (cA, 6, .inl (M 1))), (d 2, .inl (cA, 6, .inl (M 2))), (d 3, .inl (cA, 6, .inl (M 3))), (d 4, .inl (cA, 6, .inl (M 4))), (d 5, .inl (cA, 6, .inl (M 5))), (d 6, .inl (cA, 6, .inl (M 6))), (d 7, .inl (cA, 36, .inl (M 7))), (d 8, .inl (cA, 6, .inl (M 8))), (d 9, .inl (cA, 7, .inl (M 9))), (d 10, .inl (cA, 6, .inl (upd (M 10) k.toNatClampNeg f_5))), (d 11, .inl (cA, 6, .inl (upd (M 11) k.toNatClampNeg f_5))), (d 12, .inl (cA, 6, .inl (M 12))), (d 13, .inl (cZ, 6, .inl (upd (upd (M 13) k.toNatClampNeg (vp_nar .boolean 0)) k.toNatClampNeg (vp_nar .boolean f_49))))] H := hP
            have hD : va_D A [(a, .inr (4, [.int (M 0 0), .int (M 0 1), .ref (d 1), .ref (d 2), .ref (d 3), .ref (d 4), .ref (d 5), .ref (d 6), .int (M 0 2), .int (M 0 3), .int (M 0 4), .int (M 0 5), .int (M 0 6), .int (M 0 7), .int (M 0 8), .ref (d 7), .int (M 0 9), .int (M 0 10), .int (M 0 11), .int (M 0 12), .ref (d 8), .ref (d 9), .ref (d 10), .ref (d 11), .ref (d 12), .ref (d 13), .int (M 0 13), .int (M 0 14), .int (M 0 15)])), (d 1, .inl (cA, 6, .inl (M 1))), (d 2, .inl (cA, 6, .inl (M 2))), (d 3, .inl (cA, 6, .inl (M 3))), (d 4, .inl (cA, 6, .inl (M 4))), (d 5, .inl (cA, 6, .inl (M 5))), (d 6, .inl (cA, 6, .inl (M 6))), (d 7, .inl (cA, 36, .inl (M 7))), (d 8, .inl (cA, 6, .inl (M 8))), (d 9, .inl (cA, 7, .inl (M 9))), (d 10, .inl (cA, 6, .inl (upd (M 10) k.toNatClampNeg f_5))), (d 11, .inl (cA, 6, .inl (upd (M 11) k.toNatClampNeg f_5))), (d 12, .inl (cA, 6, .inl (M 12))), (d 13, .inl (cZ, 6, .inl (upd (upd (M 13) k.toNatClampNeg (vp_nar .boolean 0)) k.toNatClampNeg (vp_nar .boolean f_49))))] := hD
            refine jn 276 [] 13 [(11, .int f_47), (10, .int f_40), (9, .int f_35), (8, .int f_33), (6, .int f_6), (7, .int f_7), (0, .ref a), (1, .int q), (2, .int f_5), (3, .int h), (4, .int k), (5, .int f_3)] (if f_47 = 0 then (let f_51 : Int32 := f_33 + (M 0 3); f_51) else (f_33)) (fun f_52 ls ef_52 hl => ?_) (fun J => ?_)
            · skip
              refine lv_istore (lv' := [(12, .int f_52), (11, .int f_47), (10, .int f_40), (9, .int f_35), (8, .int f_33), (6, .int f_6), (7, .int f_7), (0, .ref a), (1, .int q), (2, .int f_5), (3, .int h), (4, .int k), (5, .int f_3)]) hx hb d_Mod_workOut_276 hl (by decide) rfl (fun ls hl => ?_)
              refine lv_aload_n hx hb d_Mod_workOut_278 rfl (lv_at hl 7 rfl) ?_
              refine va_get (D := D) (ci := 4) (v := .ref (d 11)) (C := R_Mod) (T := T_Mod) (N := 29) hx hb hts i_Mod hown hK hP 0 rfl rfl 23 (by decide) (hts _ mb_546) (fun _ h9 => h9) rfl d_Mod_workOut_279 ?_
              refine lv_iload hx hb d_Mod_workOut_282 (lv_at hl 11 rfl) ?_
              refine jn 296 [.int k, .ref (d 11)] 13 [(12, .int f_52), (11, .int f_47), (10, .int f_40), (9, .int f_35), (8, .int f_33), (6, .int f_6), (7, .int f_7), (0, .ref a), (1, .int q), (2, .int f_5), (3, .int h), (4, .int k), (5, .int f_3)] (if f_52 ≤ f_5 then (f_5) else (f_52)) (fun f_54 ls ef_54 hl => ?_) (fun J => ?_)
              · skip
                refine va_iast hx hb hK hP hD hS 11 0 rfl rfl hk6 d_Mod_workOut_296 (fun H locs hP hD hS => ?_)
                have hP : va_P D cls [(a, .inr (4, [.int (M 0 0), .int (M 0 1), .ref (d 1), .ref (d 2), .ref (d 3), .ref (d 4), .ref (d 5), .ref (d 6), .int (M 0 2), .int (M 0 3), .int (M 0 4), .int (M 0 5), .int (M 0 6), .int (M 0 7), .int (M 0 8), .ref (d 7), .int (M 0 9), .int (M 0 10), .int (M 0 11), .int (M 0 12), .ref (d 8), .ref (d 9), .ref (d 10), .ref (d 11), .ref (d 12), .ref (d 13), .int (M 0 13), .int (M 0 14), .int (M 0 15)])), (d 1, .inl (cA, 6, .inl (M 1))), (d 2, .inl (cA, 6, .inl (M 2))), (d 3, .inl (cA, 6, .inl (M 3))), (d 4, .inl (cA, 6, .inl (M 4))), (d 5, .inl (cA, 6, .inl (M 5))), (d 6, .inl (cA, 6, .inl (M 6))), (d 7, .inl (cA, 36, .inl (M 7))), (d 8, .inl (cA, 6, .inl (M 8))), (d 9, .inl (cA, 7, .inl (M 9))), (d 10, .inl (cA, 6, .inl (upd (M 10) k.toNatClampNeg f_5))), (d 11, .inl (cA, 6, .inl (upd (upd (M 11) k.toNatClampNeg f_5) k.toNatClampNeg f_54))), (d 12, .inl (cA, 6, .inl (M 12))), (d 13, .inl (cZ, 6, .inl (upd (upd (M 13) k.toNatClampNeg (vp_nar .boolean 0)) k.toNatClampNeg (vp_nar .boolean f_49))))] H := hP
                have hD : va_D A [(a, .inr (4, [.int (M 0 0), .int (M 0 1), .ref (d 1), .ref (d 2), .ref (d 3), .ref (d 4), .ref (d 5), .ref (d 6), .int (M 0 2), .int (M 0 3), .int (M 0 4), .int (M 0 5), .int (M 0 6), .int (M 0 7), .int (M 0 8), .ref (d 7), .int (M 0 9), .int (M 0 10), .int (M 0 11), .int (M 0 12), .ref (d 8), .ref (d 9), .ref (d 10), .ref (d 11), .ref (d 12), .ref (d 13), .int (M 0 13), .int (M 0 14), .int (M 0 15)])), (d 1, .inl (cA, 6, .inl (M 1))), (d 2, .inl (cA, 6, .inl (M 2))), (d 3, .inl (cA, 6, .inl (M 3))), (d 4, .inl (cA, 6, .inl (M 4))), (d 5, .inl (cA, 6, .inl (M 5))), (d 6, .inl (cA, 6, .inl (M 6))), (d 7, .inl (cA, 36, .inl (M 7))), (d 8, .inl (cA, 6, .inl (M 8))), (d 9, .inl (cA, 7, .inl (M 9))), (d 10, .inl (cA, 6, .inl (upd (M 10) k.toNatClampNeg f_5))), (d 11, .inl (cA, 6, .inl (upd (upd (M 11) k.toNatClampNeg f_5) k.toNatClampNeg f_54))), (d 12, .inl (cA, 6, .inl (M 12))), (d 13, .inl (cZ, 6, .inl (upd (upd (M 13) k.toNatClampNeg (vp_nar .boolean 0)) k.toNatClampNeg (vp_nar .boolean f_49))))] := hD
                refine lv_aload_n hx hb d_Mod_workOut_297 rfl (lv_at hl 7 rfl) ?_
                refine lv_dup hx hb d_Mod_workOut_298 rfl ?_
                refine va_get (D := D) (ci := 4) (v := .int (M 0 13)) (C := R_Mod) (T := T_Mod) (N := 29) hx hb hts i_Mod hown hK hP 0 rfl rfl 26 (by decide) (hts _ mb_549) (fun _ h9 => h9) rfl d_Mod_workOut_299 ?_
                refine jn 313 [.int (M 0 13), .ref a] 13 [(12, .int f_52), (11, .int f_47), (10, .int f_40), (9, .int f_35), (8, .int f_33), (6, .int f_6), (7, .int f_7), (0, .ref a), (1, .int q), (2, .int f_5), (3, .int h), (4, .int k), (5, .int f_3)] (if f_47 = 0 then (0) else (f_40)) (fun f_56 ls ef_56 hl => ?_) (fun J => ?_)
                · skip
                  refine lv_iadd hx hb d_Mod_workOut_313 ?_
                  refine lv_topi (fun f_57 ef_57 => ?_)
                  refine va_put (D := D) (ci := 4) (v := .int f_57) (ty := .int) (C := R_Mod) (T := T_Mod) (N := 29) hx hb hts i_Mod t_Mod t_Mod_ok n_Mod hown hK hP hD hS 0 rfl rfl 26 (by decide) (hts _ mb_549) (fun _ h9 => h9) rfl (by decide +kernel) rfl rfl (Nat.le_of_ble_eq_true rfl) d_Mod_workOut_314 (fun H locs hP hD hS => ?_)
                  have hP : va_P D cls [(a, .inr (4, [.int (M 0 0), .int (M 0 1), .ref (d 1), .ref (d 2), .ref (d 3), .ref (d 4), .ref (d 5), .ref (d 6), .int (M 0 2), .int (M 0 3), .int (M 0 4), .int (M 0 5), .int (M 0 6), .int (M 0 7), .int (M 0 8), .ref (d 7), .int (M 0 9), .int (M 0 10), .int (M 0 11), .int (M 0 12), .ref (d 8), .ref (d 9), .ref (d 10), .ref (d 11), .ref (d 12), .ref (d 13), .int f_57, .int (M 0 14), .int (M 0 15)])), (d 1, .inl (cA, 6, .inl (M 1))), (d 2, .inl (cA, 6, .inl (M 2))), (d 3, .inl (cA, 6, .inl (M 3))), (d 4, .inl (cA, 6, .inl (M 4))), (d 5, .inl (cA, 6, .inl (M 5))), (d 6, .inl (cA, 6, .inl (M 6))), (d 7, .inl (cA, 36, .inl (M 7))), (d 8, .inl (cA, 6, .inl (M 8))), (d 9, .inl (cA, 7, .inl (M 9))), (d 10, .inl (cA, 6, .inl (upd (M 10) k.toNatClampNeg f_5))), (d 11, .inl (cA, 6, .inl (upd (upd (M 11) k.toNatClampNeg f_5) k.toNatClampNeg f_54))), (d 12, .inl (cA, 6, .inl (M 12))), (d 13, .inl (cZ, 6, .inl (upd (upd (M 13) k.toNatClampNeg (vp_nar .boolean 0)) k.toNatClampNeg (vp_nar .boolean f_49))))] H := hP
                  have hD : va_D A [(a, .inr (4, [.int (M 0 0), .int (M 0 1), .ref (d 1), .ref (d 2), .ref (d 3), .ref (d 4), .ref (d 5), .ref (d 6), .int (M 0 2), .int (M 0 3), .int (M 0 4), .int (M 0 5), .int (M 0 6), .int (M 0 7), .int (M 0 8), .ref (d 7), .int (M 0 9), .int (M 0 10), .int (M 0 11), .int (M 0 12), .ref (d 8), .ref (d 9), .ref (d 10), .ref (d 11), .ref (d 12), .ref (d 13), .int f_57, .int (M 0 14), .int (M 0 15)])), (d 1, .inl (cA, 6, .inl (M 1))), (d 2, .inl (cA, 6, .inl (M 2))), (d 3, .inl (cA, 6, .inl (M 3))), (d 4, .inl (cA, 6, .inl (M 4))), (d 5, .inl (cA, 6, .inl (M 5))), (d 6, .inl (cA, 6, .inl (M 6))), (d 7, .inl (cA, 36, .inl (M 7))), (d 8, .inl (cA, 6, .inl (M 8))), (d 9, .inl (cA, 7, .inl (M 9))), (d 10, .inl (cA, 6, .inl (upd (M 10) k.toNatClampNeg f_5))), (d 11, .inl (cA, 6, .inl (upd (upd (M 11) k.toNatClampNeg f_5) k.toNatClampNeg f_54))), (d 12, .inl (cA, 6, .inl (M 12))), (d 13, .inl (cZ, 6, .inl (upd (upd (M 13) k.toNatClampNeg (vp_nar .boolean 0)) k.toNatClampNeg (vp_nar .boolean f_49))))] := hD
                  refine lv_aload_n hx hb d_Mod_workOut_317 rfl (lv_at hl 7 rfl) ?_
                  refine lv_dup hx hb d_Mod_workOut_318 rfl ?_
                  refine va_get (D := D) (ci := 4) (v := .int (M 0 14)) (C := R_Mod) (T := T_Mod) (N := 29) hx hb hts i_Mod hown hK hP 0 rfl rfl 27 (by decide) (hts _ mb_550) (fun _ h9 => h9) rfl d_Mod_workOut_319 ?_
                  refine jn 332 [.int (M 0 14), .ref a] 13 [(12, .int f_52), (11, .int f_47), (10, .int f_40), (9, .int f_35), (8, .int f_33), (6, .int f_6), (7, .int f_7), (0, .ref a), (1, .int q), (2, .int f_5), (3, .int h), (4, .int k), (5, .int f_3)] (if f_47 = 0 then (1) else (0)) (fun f_59 ls ef_59 hl => ?_) (fun J => ?_)
                  · skip
                    refine lv_iadd hx hb d_Mod_workOut_332 ?_
                    refine lv_topi (fun f_60 ef_60 => ?_)
                    refine va_put (D := D) (ci := 4) (v := .int f_60) (ty := .int) (C := R_Mod) (T := T_Mod) (N := 29) hx hb hts i_Mod t_Mod t_Mod_ok n_Mod hown hK hP hD hS 0 rfl rfl 27 (by decide) (hts _ mb_550) (fun _ h9 => h9) rfl (by decide +kernel) rfl rfl (Nat.le_of_ble_eq_true rfl) d_Mod_workOut_333 (fun H locs hP hD hS => ?_)
                    have hP : va_P D cls [(a, .inr (4, [.int (M 0 0), .int (M 0 1), .ref (d 1), .ref (d 2), .ref (d 3), .ref (d 4), .ref (d 5), .ref (d 6), .int (M 0 2), .int (M 0 3), .int (M 0 4), .int (M 0 5), .int (M 0 6), .int (M 0 7), .int (M 0 8), .ref (d 7), .int (M 0 9), .int (M 0 10), .int (M 0 11), .int (M 0 12), .ref (d 8), .ref (d 9), .ref (d 10), .ref (d 11), .ref (d 12), .ref (d 13), .int f_57, .int f_60, .int (M 0 15)])), (d 1, .inl (cA, 6, .inl (M 1))), (d 2, .inl (cA, 6, .inl (M 2))), (d 3, .inl (cA, 6, .inl (M 3))), (d 4, .inl (cA, 6, .inl (M 4))), (d 5, .inl (cA, 6, .inl (M 5))), (d 6, .inl (cA, 6, .inl (M 6))), (d 7, .inl (cA, 36, .inl (M 7))), (d 8, .inl (cA, 6, .inl (M 8))), (d 9, .inl (cA, 7, .inl (M 9))), (d 10, .inl (cA, 6, .inl (upd (M 10) k.toNatClampNeg f_5))), (d 11, .inl (cA, 6, .inl (upd (upd (M 11) k.toNatClampNeg f_5) k.toNatClampNeg f_54))), (d 12, .inl (cA, 6, .inl (M 12))), (d 13, .inl (cZ, 6, .inl (upd (upd (M 13) k.toNatClampNeg (vp_nar .boolean 0)) k.toNatClampNeg (vp_nar .boolean f_49))))] H := hP
                    have hD : va_D A [(a, .inr (4, [.int (M 0 0), .int (M 0 1), .ref (d 1), .ref (d 2), .ref (d 3), .ref (d 4), .ref (d 5), .ref (d 6), .int (M 0 2), .int (M 0 3), .int (M 0 4), .int (M 0 5), .int (M 0 6), .int (M 0 7), .int (M 0 8), .ref (d 7), .int (M 0 9), .int (M 0 10), .int (M 0 11), .int (M 0 12), .ref (d 8), .ref (d 9), .ref (d 10), .ref (d 11), .ref (d 12), .ref (d 13), .int f_57, .int f_60, .int (M 0 15)])), (d 1, .inl (cA, 6, .inl (M 1))), (d 2, .inl (cA, 6, .inl (M 2))), (d 3, .inl (cA, 6, .inl (M 3))), (d 4, .inl (cA, 6, .inl (M 4))), (d 5, .inl (cA, 6, .inl (M 5))), (d 6, .inl (cA, 6, .inl (M 6))), (d 7, .inl (cA, 36, .inl (M 7))), (d 8, .inl (cA, 6, .inl (M 8))), (d 9, .inl (cA, 7, .inl (M 9))), (d 10, .inl (cA, 6, .inl (upd (M 10) k.toNatClampNeg f_5))), (d 11, .inl (cA, 6, .inl (upd (upd (M 11) k.toNatClampNeg f_5) k.toNatClampNeg f_54))), (d 12, .inl (cA, 6, .inl (M 12))), (d 13, .inl (cZ, 6, .inl (upd (upd (M 13) k.toNatClampNeg (vp_nar .boolean 0)) k.toNatClampNeg (vp_nar .boolean f_49))))] := hD
                    refine lv_aload_n hx hb d_Mod_workOut_336 rfl (lv_at hl 7 rfl) ?_
                    refine va_get (D := D) (ci := 4) (v := .ref (d 12)) (C := R_Mod) (T := T_Mod) (N := 29) hx hb hts i_Mod hown hK hP 0 rfl rfl 24 (by decide) (hts _ mb_547) (fun _ h9 => h9) rfl d_Mod_workOut_337 ?_
                    refine lv_iload hx hb d_Mod_workOut_340 (lv_at hl 11 rfl) ?_
                    refine lv_aload_n hx hb d_Mod_workOut_342 rfl (lv_at hl 7 rfl) ?_
                    refine va_get (D := D) (ci := 4) (v := .ref (d 11)) (C := R_Mod) (T := T_Mod) (N := 29) hx hb hts i_Mod hown hK hP 0 rfl rfl 23 (by decide) (hts _ mb_546) (fun _ h9 => h9) rfl d_Mod_workOut_343 ?_
                    refine lv_iload hx hb d_Mod_workOut_346 (lv_at hl 11 rfl) ?_
                    refine va_iald hx hb hK hP 11 0 rfl rfl hk6 d_Mod_workOut_348 ?_
                    refine lv_topi (fun f_61 ef_61 => ?_)
                    refine lv_aload_n hx hb d_Mod_workOut_349 rfl (lv_at hl 7 rfl) ?_
                    refine va_get (D := D) (ci := 4) (v := .ref (d 4)) (C := R_Mod) (T := T_Mod) (N := 29) hx hb hts i_Mod hown hK hP 0 rfl rfl 5 (by decide) (hts _ mb_528) (fun _ h9 => h9) rfl d_Mod_workOut_350 ?_
                    refine lv_iload hx hb d_Mod_workOut_353 (lv_at hl 12 rfl) ?_
                    refine va_iald hx hb hK hP 4 0 rfl rfl (by rw [ef_3, ef_2]; exact hh6) d_Mod_workOut_355 ?_
                    refine lv_topi (fun f_62 ef_62 => ?_)
                    refine lv_iadd hx hb d_Mod_workOut_356 ?_
                    refine lv_topi (fun f_63 ef_63 => ?_)
                    refine va_iast hx hb hK hP hD hS 12 0 rfl rfl hk6 d_Mod_workOut_357 (fun H locs hP hD hS => ?_)
                    have hP : va_P D cls [(a, .inr (4, [.int (M 0 0), .int (M 0 1), .ref (d 1), .ref (d 2), .ref (d 3), .ref (d 4), .ref (d 5), .ref (d 6), .int (M 0 2), .int (M 0 3), .int (M 0 4), .int (M 0 5), .int (M 0 6), .int (M 0 7), .int (M 0 8), .ref (d 7), .int (M 0 9), .int (M 0 10), .int (M 0 11), .int (M 0 12), .ref (d 8), .ref (d 9), .ref (d 10), .ref (d 11), .ref (d 12), .ref (d 13), .int f_57, .int f_60, .int (M 0 15)])), (d 1, .inl (cA, 6, .inl (M 1))), (d 2, .inl (cA, 6, .inl (M 2))), (d 3, .inl (cA, 6, .inl (M 3))), (d 4, .inl (cA, 6, .inl (M 4))), (d 5, .inl (cA, 6, .inl (M 5))), (d 6, .inl (cA, 6, .inl (M 6))), (d 7, .inl (cA, 36, .inl (M 7))), (d 8, .inl (cA, 6, .inl (M 8))), (d 9, .inl (cA, 7, .inl (M 9))), (d 10, .inl (cA, 6, .inl (upd (M 10) k.toNatClampNeg f_5))), (d 11, .inl (cA, 6, .inl (upd (upd (M 11) k.toNatClampNeg f_5) k.toNatClampNeg f_54))), (d 12, .inl (cA, 6, .inl (upd (M 12) k.toNatClampNeg f_63))), (d 13, .inl (cZ, 6, .inl (upd (upd (M 13) k.toNatClampNeg (vp_nar .boolean 0)) k.toNatClampNeg (vp_nar .boolean f_49))))] H := hP
                    have hD : va_D A [(a, .inr (4, [.int (M 0 0), .int (M 0 1), .ref (d 1), .ref (d 2), .ref (d 3), .ref (d 4), .ref (d 5), .ref (d 6), .int (M 0 2), .int (M 0 3), .int (M 0 4), .int (M 0 5), .int (M 0 6), .int (M 0 7), .int (M 0 8), .ref (d 7), .int (M 0 9), .int (M 0 10), .int (M 0 11), .int (M 0 12), .ref (d 8), .ref (d 9), .ref (d 10), .ref (d 11), .ref (d 12), .ref (d 13), .int f_57, .int f_60, .int (M 0 15)])), (d 1, .inl (cA, 6, .inl (M 1))), (d 2, .inl (cA, 6, .inl (M 2))), (d 3, .inl (cA, 6, .inl (M 3))), (d 4, .inl (cA, 6, .inl (M 4))), (d 5, .inl (cA, 6, .inl (M 5))), (d 6, .inl (cA, 6, .inl (M 6))), (d 7, .inl (cA, 36, .inl (M 7))), (d 8, .inl (cA, 6, .inl (M 8))), (d 9, .inl (cA, 7, .inl (M 9))), (d 10, .inl (cA, 6, .inl (upd (M 10) k.toNatClampNeg f_5))), (d 11, .inl (cA, 6, .inl (upd (upd (M 11) k.toNatClampNeg f_5) k.toNatClampNeg f_54))), (d 12, .inl (cA, 6, .inl (upd (M 12) k.toNatClampNeg f_63))), (d 13, .inl (cZ, 6, .inl (upd (upd (M 13) k.toNatClampNeg (vp_nar .boolean 0)) k.toNatClampNeg (vp_nar .boolean f_49))))] := hD
                    refine lv_aload_n hx hb d_Mod_workOut_358 rfl (lv_at hl 7 rfl) ?_
                    refine lv_dup hx hb d_Mod_workOut_359 rfl ?_
                    refine va_get (D := D) (ci := 4) (v := .int (M 0 15)) (C := R_Mod) (T := T_Mod) (N := 29) hx hb hts i_Mod hown hK hP 0 rfl rfl 28 (by decide) (hts _ mb_551) (fun _ h9 => h9) rfl d_Mod_workOut_360 ?_
                    refine jn 399 [.int (M 0 15), .ref a] 13 [(12, .int f_52), (11, .int f_47), (10, .int f_40), (9, .int f_35), (8, .int f_33), (6, .int f_6), (7, .int f_7), (0, .ref a), (1, .int q), (2, .int f_5), (3, .int h), (4, .int k), (5, .int f_3)] (let f_64 : Int32 := upd (M 12) k.toNatClampNeg f_63 k.toNatClampNeg; let f_65 : Int32 := M 5 f_3.toNatClampNeg; if f_64 ≤ f_65 then (0) else (let f_67 : Int32 := upd (M 12) k.toNatClampNeg f_63 k.toNatClampNeg; let f_68 : Int32 := M 5 f_3.toNatClampNeg; let f_69 : Int32 := f_67 - f_68; f_69)) (fun f_70 ls ef_70 hl => ?_) (fun J => ?_)
                    · skip
                      refine lv_iadd hx hb d_Mod_workOut_399 ?_
                      refine lv_topi (fun f_71 ef_71 => ?_)
                      refine va_put (D := D) (ci := 4) (v := .int f_71) (ty := .int) (C := R_Mod) (T := T_Mod) (N := 29) hx hb hts i_Mod t_Mod t_Mod_ok n_Mod hown hK hP hD hS 0 rfl rfl 28 (by decide) (hts _ mb_551) (fun _ h9 => h9) rfl (by decide +kernel) rfl rfl (Nat.le_of_ble_eq_true rfl) d_Mod_workOut_400 (fun H locs hP hD hS => ?_)
                      have hP : va_P D cls [(a, .inr (4, [.int (M 0 0), .int (M 0 1), .ref (d 1), .ref (d 2), .ref (d 3), .ref (d 4), .ref (d 5), .ref (d 6), .int (M 0 2), .int (M 0 3), .int (M 0 4), .int (M 0 5), .int (M 0 6), .int (M 0 7), .int (M 0 8), .ref (d 7), .int (M 0 9), .int (M 0 10), .int (M 0 11), .int (M 0 12), .ref (d 8), .ref (d 9), .ref (d 10), .ref (d 11), .ref (d 12), .ref (d 13), .int f_57, .int f_60, .int f_71])), (d 1, .inl (cA, 6, .inl (M 1))), (d 2, .inl (cA, 6, .inl (M 2))), (d 3, .inl (cA, 6, .inl (M 3))), (d 4, .inl (cA, 6, .inl (M 4))), (d 5, .inl (cA, 6, .inl (M 5))), (d 6, .inl (cA, 6, .inl (M 6))), (d 7, .inl (cA, 36, .inl (M 7))), (d 8, .inl (cA, 6, .inl (M 8))), (d 9, .inl (cA, 7, .inl (M 9))), (d 10, .inl (cA, 6, .inl (upd (M 10) k.toNatClampNeg f_5))), (d 11, .inl (cA, 6, .inl (upd (upd (M 11) k.toNatClampNeg f_5) k.toNatClampNeg f_54))), (d 12, .inl (cA, 6, .inl (upd (M 12) k.toNatClampNeg f_63))), (d 13, .inl (cZ, 6, .inl (upd (upd (M 13) k.toNatClampNeg (vp_nar .boolean 0)) k.toNatClampNeg (vp_nar .boolean f_49))))] H := hP
                      have hD : va_D A [(a, .inr (4, [.int (M 0 0), .int (M 0 1), .ref (d 1), .ref (d 2), .ref (d 3), .ref (d 4), .ref (d 5), .ref (d 6), .int (M 0 2), .int (M 0 3), .int (M 0 4), .int (M 0 5), .int (M 0 6), .int (M 0 7), .int (M 0 8), .ref (d 7), .int (M 0 9), .int (M 0 10), .int (M 0 11), .int (M 0 12), .ref (d 8), .ref (d 9), .ref (d 10), .ref (d 11), .ref (d 12), .ref (d 13), .int f_57, .int f_60, .int f_71])), (d 1, .inl (cA, 6, .inl (M 1))), (d 2, .inl (cA, 6, .inl (M 2))), (d 3, .inl (cA, 6, .inl (M 3))), (d 4, .inl (cA, 6, .inl (M 4))), (d 5, .inl (cA, 6, .inl (M 5))), (d 6, .inl (cA, 6, .inl (M 6))), (d 7, .inl (cA, 36, .inl (M 7))), (d 8, .inl (cA, 6, .inl (M 8))), (d 9, .inl (cA, 7, .inl (M 9))), (d 10, .inl (cA, 6, .inl (upd (M 10) k.toNatClampNeg f_5))), (d 11, .inl (cA, 6, .inl (upd (upd (M 11) k.toNatClampNeg f_5) k.toNatClampNeg f_54))), (d 12, .inl (cA, 6, .inl (upd (M 12) k.toNatClampNeg f_63))), (d 13, .inl (cZ, 6, .inl (upd (upd (M 13) k.toNatClampNeg (vp_nar .boolean 0)) k.toNatClampNeg (vp_nar .boolean f_49))))] := hD
                      refine jn 451 [] 13 [(12, .int f_52), (11, .int f_47), (10, .int f_40), (9, .int f_35), (8, .int f_33), (6, .int f_6), (7, .int f_7), (0, .ref a), (1, .int q), (2, .int f_5), (3, .int h), (4, .int k), (5, .int f_3)] (if h = 0 then (0) else (let f_73 : Int32 := upd (upd (M 11) k.toNatClampNeg f_5) k.toNatClampNeg f_54 k.toNatClampNeg; let f_74 : Int32 := f_73 - f_5; if M 0 2 < f_74 then (0) else (let f_76 : Int32 := M 6 f_3.toNatClampNeg; let f_77 : Int32 := M 9 k.toNatClampNeg; let f_78 : Int32 := f_77 - f_77 / 2 * 2; let f_79 : Int32 := f_76 >>> (f_78 &&& 31); let f_80 : Int32 := f_79 &&& 1; if f_80 = 1 then (1) else (0)))) (fun f_82 ls ef_82 hl => ?_) (fun J => ?_)
                      · skip
                        refine lv_istore_n (lv' := [(3, .int f_82), (12, .int f_52), (11, .int f_47), (10, .int f_40), (9, .int f_35), (8, .int f_33), (6, .int f_6), (7, .int f_7), (0, .ref a), (1, .int q), (2, .int f_5), (4, .int k), (5, .int f_3)]) hx hb d_Mod_workOut_451 rfl hl (by decide) rfl (fun ls hl => ?_)
                        obtain ⟨x_83, ex_83⟩ : ∃ y : Int32, y = k + 1 := ⟨_, rfl⟩
                        refine lv_iinc (v := x_83) (lv' := [(4, .int x_83), (3, .int f_82), (12, .int f_52), (11, .int f_47), (10, .int f_40), (9, .int f_35), (8, .int f_33), (6, .int f_6), (7, .int f_7), (0, .ref a), (1, .int q), (2, .int f_5), (5, .int f_3)]) hx hb d_Mod_workOut_452 hl (k := 11) rfl (by rw [ex_83]; rfl) (by decide) rfl (fun ls hl => ?_)
                        refine lv_goto (tgt := 22) hx hb d_Mod_workOut_455 (by decide) ?_
                        have e9 : q_Mod_workOut q (n + 1) k j h M = q_Mod_workOut q n x_83 f_5 f_82 (tb [(tv [M 0 0, M 0 1, M 0 2, M 0 3, M 0 4, M 0 5, M 0 6, M 0 7, M 0 8, M 0 9, M 0 10, M 0 11, M 0 12, f_57, f_60, f_71]), M 1, M 2, M 3, M 4, M 5, M 6, M 7, M 8, M 9, upd (M 10) k.toNatClampNeg f_5, upd (upd (M 11) k.toNatClampNeg f_5) k.toNatClampNeg f_54, upd (M 12) k.toNatClampNeg f_63, upd (upd (M 13) k.toNatClampNeg (vp_nar .boolean 0)) k.toNatClampNeg (vp_nar .boolean f_49)]) := by
                          subst ef_2 ef_3 ef_4 ef_5 ef_6 ef_7 ef_33 ef_34 ef_35 ef_36 ef_37 ef_38 ef_39 ef_40 ef_47 ef_49 ef_52 ef_54 ef_56 ef_57 ef_59 ef_60 ef_61 ef_62 ef_63 ef_70 ef_71 ef_82 ex_83; rw [q_Mod_workOut]; simp only [if_neg c_1, if_neg c_9]
                        rw [e9]
                        exact ih x_83 f_5 f_82 (tb [(tv [M 0 0, M 0 1, M 0 2, M 0 3, M 0 4, M 0 5, M 0 6, M 0 7, M 0 8, M 0 9, M 0 10, M 0 11, M 0 12, f_57, f_60, f_71]), M 1, M 2, M 3, M 4, M 5, M 6, M 7, M 8, M 9, upd (M 10) k.toNatClampNeg f_5, upd (upd (M 11) k.toNatClampNeg f_5) k.toNatClampNeg f_54, upd (M 12) k.toNatClampNeg f_63, upd (upd (M 13) k.toNatClampNeg (vp_nar .boolean 0)) k.toNatClampNeg (vp_nar .boolean f_49)]) ⟨by rw [ex_83, toInt_s hk6 (by decide)]; have h8 := vp_in_iff.mp hk6; omega, by rw [ef_82]; dsimp only; (repeat' split) <;> (first | exact Or.inl rfl | exact Or.inr rfl), hi.2.2.1, hi.2.2.2⟩ _ _ (hP.sub [0, 1, 2, 3, 4, 5, 6, 7, 8, 9, 10, 11, 12, 13] rfl) (hD.sub [0, 1, 2, 3, 4, 5, 6, 7, 8, 9, 10, 11, 12, 13] (by decide) rfl) hS _ (lv_sub hl [0, 11, 1, 9, 10] rfl)
                      · skip
                        refine lv_iload_n hx hb d_Mod_workOut_403 rfl (lv_at hl 10 rfl) ?_
                        refine lv_if_eq (tgt := 450) hx hb d_Mod_workOut_404 (by decide) (fun c_72 => ?_) (fun c_72 => ?_)
                        · skip
                          refine lv_iconst (v := 0) hx hb d_Mod_workOut_450 (by decide) ?_
                          exact J _ _ (by simp only [if_pos c_72]) (lv_sub hl [0, 1, 2, 3, 4, 5, 6, 7, 8, 9, 10, 11, 12] rfl)
                        · skip
                          refine lv_aload_n hx hb d_Mod_workOut_407 rfl (lv_at hl 7 rfl) ?_
                          refine va_get (D := D) (ci := 4) (v := .ref (d 11)) (C := R_Mod) (T := T_Mod) (N := 29) hx hb hts i_Mod hown hK hP 0 rfl rfl 23 (by decide) (hts _ mb_546) (fun _ h9 => h9) rfl d_Mod_workOut_408 ?_
                          refine lv_iload hx hb d_Mod_workOut_411 (lv_at hl 11 rfl) ?_
                          refine va_iald hx hb hK hP 11 0 rfl rfl hk6 d_Mod_workOut_413 ?_
                          refine lv_topi (fun f_73 ef_73 => ?_)
                          refine lv_iload_n hx hb d_Mod_workOut_414 rfl (lv_at hl 9 rfl) ?_
                          refine lv_isub hx hb d_Mod_workOut_415 ?_
                          refine lv_topi (fun f_74 ef_74 => ?_)
                          refine lv_aload_n hx hb d_Mod_workOut_416 rfl (lv_at hl 7 rfl) ?_
                          refine va_get (D := D) (ci := 4) (v := .int (M 0 2)) (C := R_Mod) (T := T_Mod) (N := 29) hx hb hts i_Mod hown hK hP 0 rfl rfl 8 (by decide) (hts _ mb_531) (fun _ h9 => h9) rfl d_Mod_workOut_417 ?_
                          refine lv_icmp_gt (tgt := 450) hx hb d_Mod_workOut_420 (by decide) (fun c_75 => ?_) (fun c_75 => ?_)
                          · skip
                            refine lv_iconst (v := 0) hx hb d_Mod_workOut_450 (by decide) ?_
                            exact J _ _ (by subst ef_73 ef_74; simp only [if_neg c_72, if_pos c_75]) (lv_sub hl [0, 1, 2, 3, 4, 5, 6, 7, 8, 9, 10, 11, 12] rfl)
                          · skip
                            refine lv_aload_n hx hb d_Mod_workOut_423 rfl (lv_at hl 7 rfl) ?_
                            refine va_get (D := D) (ci := 4) (v := .ref (d 6)) (C := R_Mod) (T := T_Mod) (N := 29) hx hb hts i_Mod hown hK hP 0 rfl rfl 7 (by decide) (hts _ mb_530) (fun _ h9 => h9) rfl d_Mod_workOut_424 ?_
                            refine lv_iload hx hb d_Mod_workOut_427 (lv_at hl 12 rfl) ?_
                            refine va_iald hx hb hK hP 6 0 rfl rfl (by rw [ef_3, ef_2]; exact hh6) d_Mod_workOut_429 ?_
                            refine lv_topi (fun f_76 ef_76 => ?_)
                            refine lv_aload_n hx hb d_Mod_workOut_430 rfl (lv_at hl 7 rfl) ?_
                            refine va_get (D := D) (ci := 4) (v := .ref (d 9)) (C := R_Mod) (T := T_Mod) (N := 29) hx hb hts i_Mod hown hK hP 0 rfl rfl 21 (by decide) (hts _ mb_544) (fun _ h9 => h9) rfl d_Mod_workOut_431 ?_
                            refine lv_iload hx hb d_Mod_workOut_434 (lv_at hl 11 rfl) ?_
                            refine va_iald hx hb hK hP 9 0 rfl rfl (in_le hk6 (by decide)) d_Mod_workOut_436 ?_
                            refine lv_topi (fun f_77 ef_77 => ?_)
                            refine lv_iconst (v := 2) hx hb d_Mod_workOut_437 (by decide) ?_
                            refine lv_irem hx hb d_Mod_workOut_438 (by decide) ?_
                            refine lv_topi (fun f_78 ef_78 => ?_)
                            refine lv_ishr hx hb d_Mod_workOut_439 ?_
                            refine lv_topi (fun f_79 ef_79 => ?_)
                            refine lv_iconst (v := 1) hx hb d_Mod_workOut_440 (by decide) ?_
                            refine lv_iand hx hb d_Mod_workOut_441 ?_
                            refine lv_topi (fun f_80 ef_80 => ?_)
                            refine lv_iconst (v := 1) hx hb d_Mod_workOut_442 (by decide) ?_
                            refine lv_icmp_ne (tgt := 450) hx hb d_Mod_workOut_443 (by decide) (fun c_81 => ?_) (fun c_81 => ?_)
                            · skip
                              refine lv_iconst (v := 0) hx hb d_Mod_workOut_450 (by decide) ?_
                              exact J _ _ (by subst ef_73 ef_74 ef_76 ef_77 ef_78 ef_79 ef_80; simp only [if_neg c_72, if_neg c_75, if_neg c_81]) (lv_sub hl [0, 1, 2, 3, 4, 5, 6, 7, 8, 9, 10, 11, 12] rfl)
                            · skip
                              refine lv_iconst (v := 1) hx hb d_Mod_workOut_446 (by decide) ?_
                              refine lv_goto (tgt := 451) hx hb d_Mod_workOut_447 (by decide) ?_
                              exact J _ _ (by subst ef_73 ef_74 ef_76 ef_77 ef_78 ef_79 ef_80; simp only [if_neg c_72, if_neg c_75, if_pos c_81]) (lv_sub hl [0, 1, 2, 3, 4, 5, 6, 7, 8, 9, 10, 11, 12] rfl)
                    · skip
                      refine lv_aload_n hx hb d_Mod_workOut_363 rfl (lv_at hl 7 rfl) ?_
                      refine va_get (D := D) (ci := 4) (v := .ref (d 12)) (C := R_Mod) (T := T_Mod) (N := 29) hx hb hts i_Mod hown hK hP 0 rfl rfl 24 (by decide) (hts _ mb_547) (fun _ h9 => h9) rfl d_Mod_workOut_364 ?_
                      refine lv_iload hx hb d_Mod_workOut_367 (lv_at hl 11 rfl) ?_
                      refine va_iald hx hb hK hP 12 0 rfl rfl hk6 d_Mod_workOut_369 ?_
                      refine lv_topi (fun f_64 ef_64 => ?_)
                      refine lv_aload_n hx hb d_Mod_workOut_370 rfl (lv_at hl 7 rfl) ?_
                      refine va_get (D := D) (ci := 4) (v := .ref (d 5)) (C := R_Mod) (T := T_Mod) (N := 29) hx hb hts i_Mod hown hK hP 0 rfl rfl 6 (by decide) (hts _ mb_529) (fun _ h9 => h9) rfl d_Mod_workOut_371 ?_
                      refine lv_iload hx hb d_Mod_workOut_374 (lv_at hl 12 rfl) ?_
                      refine va_iald hx hb hK hP 5 0 rfl rfl (by rw [ef_3, ef_2]; exact hh6) d_Mod_workOut_376 ?_
                      refine lv_topi (fun f_65 ef_65 => ?_)
                      refine lv_icmp_le (tgt := 398) hx hb d_Mod_workOut_377 (by decide) (fun c_66 => ?_) (fun c_66 => ?_)
                      · skip
                        refine lv_iconst (v := 0) hx hb d_Mod_workOut_398 (by decide) ?_
                        exact J _ _ (by subst ef_64 ef_65; simp only [if_pos c_66]) (lv_sub hl [0, 1, 2, 3, 4, 5, 6, 7, 8, 9, 10, 11, 12] rfl)
                      · skip
                        refine lv_aload_n hx hb d_Mod_workOut_380 rfl (lv_at hl 7 rfl) ?_
                        refine va_get (D := D) (ci := 4) (v := .ref (d 12)) (C := R_Mod) (T := T_Mod) (N := 29) hx hb hts i_Mod hown hK hP 0 rfl rfl 24 (by decide) (hts _ mb_547) (fun _ h9 => h9) rfl d_Mod_workOut_381 ?_
                        refine lv_iload hx hb d_Mod_workOut_384 (lv_at hl 11 rfl) ?_
                        refine va_iald hx hb hK hP 12 0 rfl rfl hk6 d_Mod_workOut_386 ?_
                        refine lv_topi (fun f_67 ef_67 => ?_)
                        refine lv_aload_n hx hb d_Mod_workOut_387 rfl (lv_at hl 7 rfl) ?_
                        refine va_get (D := D) (ci := 4) (v := .ref (d 5)) (C := R_Mod) (T := T_Mod) (N := 29) hx hb hts i_Mod hown hK hP 0 rfl rfl 6 (by decide) (hts _ mb_529) (fun _ h9 => h9) rfl d_Mod_workOut_388 ?_
                        refine lv_iload hx hb d_Mod_workOut_391 (lv_at hl 12 rfl) ?_
                        refine va_iald hx hb hK hP 5 0 rfl rfl (by rw [ef_3, ef_2]; exact hh6) d_Mod_workOut_393 ?_
                        refine lv_topi (fun f_68 ef_68 => ?_)
                        refine lv_isub hx hb d_Mod_workOut_394 ?_
                        refine lv_topi (fun f_69 ef_69 => ?_)
                        refine lv_goto (tgt := 399) hx hb d_Mod_workOut_395 (by decide) ?_
                        exact J _ _ (by subst ef_64 ef_65 ef_67 ef_68 ef_69; simp only [if_neg c_66]) (lv_sub hl [0, 1, 2, 3, 4, 5, 6, 7, 8, 9, 10, 11, 12] rfl)
                  · skip
                    refine lv_iload hx hb d_Mod_workOut_322 (lv_at hl 1 rfl) ?_
                    refine lv_if_eq (tgt := 331) hx hb d_Mod_workOut_324 (by decide) (fun c_58 => ?_) (fun c_58 => ?_)
                    · skip
                      refine lv_iconst (v := 1) hx hb d_Mod_workOut_331 (by decide) ?_
                      exact J _ _ (by simp only [if_pos c_58]) (lv_sub hl [0, 1, 2, 3, 4, 5, 6, 7, 8, 9, 10, 11, 12] rfl)
                    · skip
                      refine lv_iconst (v := 0) hx hb d_Mod_workOut_327 (by decide) ?_
                      refine lv_goto (tgt := 332) hx hb d_Mod_workOut_328 (by decide) ?_
                      exact J _ _ (by simp only [if_neg c_58]) (lv_sub hl [0, 1, 2, 3, 4, 5, 6, 7, 8, 9, 10, 11, 12] rfl)
                · skip
                  refine lv_iload hx hb d_Mod_workOut_302 (lv_at hl 1 rfl) ?_
                  refine lv_if_eq (tgt := 312) hx hb d_Mod_workOut_304 (by decide) (fun c_55 => ?_) (fun c_55 => ?_)
                  · skip
                    refine lv_iconst (v := 0) hx hb d_Mod_workOut_312 (by decide) ?_
                    exact J _ _ (by simp only [if_pos c_55]) (lv_sub hl [0, 1, 2, 3, 4, 5, 6, 7, 8, 9, 10, 11, 12] rfl)
                  · skip
                    refine lv_iload hx hb d_Mod_workOut_307 (lv_at hl 2 rfl) ?_
                    refine lv_goto (tgt := 313) hx hb d_Mod_workOut_309 (by decide) ?_
                    exact J _ _ (by simp only [if_neg c_55]) (lv_sub hl [0, 1, 2, 3, 4, 5, 6, 7, 8, 9, 10, 11, 12] rfl)
              · skip
                refine lv_iload hx hb d_Mod_workOut_284 (lv_at hl 0 rfl) ?_
                refine lv_iload_n hx hb d_Mod_workOut_286 rfl (lv_at hl 9 rfl) ?_
                refine lv_icmp_le (tgt := 295) hx hb d_Mod_workOut_287 (by decide) (fun c_53 => ?_) (fun c_53 => ?_)
                · skip
                  refine lv_iload_n hx hb d_Mod_workOut_295 rfl (lv_at hl 9 rfl) ?_
                  exact J _ _ (by simp only [if_pos c_53]) (lv_sub hl [0, 1, 2, 3, 4, 5, 6, 7, 8, 9, 10, 11, 12] rfl)
                · skip
                  refine lv_iload hx hb d_Mod_workOut_290 (lv_at hl 0 rfl) ?_
                  refine lv_goto (tgt := 296) hx hb d_Mod_workOut_292 (by decide) ?_
                  exact J _ _ (by simp only [if_neg c_53]) (lv_sub hl [0, 1, 2, 3, 4, 5, 6, 7, 8, 9, 10, 11, 12] rfl)
            · skip
              refine lv_iload hx hb d_Mod_workOut_259 (lv_at hl 0 rfl) ?_
              refine lv_if_eq (tgt := 269) hx hb d_Mod_workOut_261 (by decide) (fun c_50 => ?_) (fun c_50 => ?_)
              · skip
                refine lv_iload hx hb d_Mod_workOut_269 (lv_at hl 3 rfl) ?_
                refine lv_aload_n hx hb d_Mod_workOut_271 rfl (lv_at hl 6 rfl) ?_
                refine va_get (D := D) (ci := 4) (v := .int (M 0 3)) (C := R_Mod) (T := T_Mod) (N := 29) hx hb hts i_Mod hown hK hP 0 rfl rfl 9 (by decide) (hts _ mb_532) (fun _ h9 => h9) rfl d_Mod_workOut_272 ?_
                refine lv_iadd hx hb d_Mod_workOut_275 ?_
                refine lv_topi (fun f_51 ef_51 => ?_)
                exact J _ _ (by subst ef_51; simp only [if_pos c_50]) (lv_sub hl [0, 1, 2, 3, 4, 5, 6, 7, 8, 9, 10, 11] rfl)
              · skip
                refine lv_iload hx hb d_Mod_workOut_264 (lv_at hl 3 rfl) ?_
                refine lv_goto (tgt := 276) hx hb d_Mod_workOut_266 (by decide) ?_
                exact J _ _ (by simp only [if_neg c_50]) (lv_sub hl [0, 1, 2, 3, 4, 5, 6, 7, 8, 9, 10, 11] rfl)
          · skip
            refine lv_iload hx hb d_Mod_workOut_248 (lv_at hl 0 rfl) ?_
            refine lv_if_ne (tgt := 257) hx hb d_Mod_workOut_250 (by decide) (fun c_48 => ?_) (fun c_48 => ?_)
            · skip
              refine lv_iconst (v := 0) hx hb d_Mod_workOut_257 (by decide) ?_
              exact J _ _ (by simp only [if_neg c_48]) (lv_sub hl [0, 1, 2, 3, 4, 5, 6, 7, 8, 9, 10, 11] rfl)
            · skip
              refine lv_iconst (v := 1) hx hb d_Mod_workOut_253 (by decide) ?_
              refine lv_goto (tgt := 258) hx hb d_Mod_workOut_254 (by decide) ?_
              exact J _ _ (by simp only [if_pos c_48]) (lv_sub hl [0, 1, 2, 3, 4, 5, 6, 7, 8, 9, 10, 11] rfl)
        · skip
          refine lv_iload hx hb d_Mod_workOut_195 (lv_at hl 0 rfl) ?_
          refine lv_if_lt (tgt := 239) hx hb d_Mod_workOut_197 (by decide) (fun c_41 => ?_) (fun c_41 => ?_)
          · skip
            refine lv_iconst (v := 0) hx hb d_Mod_workOut_239 (by decide) ?_
            exact J _ _ (by simp only [if_pos c_41]) (lv_sub hl [0, 1, 2, 3, 4, 5, 6, 7, 8, 9, 10] rfl)
          · skip
            refine lv_aload_n hx hb d_Mod_workOut_200 rfl (lv_at hl 5 rfl) ?_
            refine lv_iload hx hb d_Mod_workOut_201 (lv_at hl 1 rfl) ?_
            refine lv_iload hx hb d_Mod_workOut_203 (lv_at hl 10 rfl) ?_
            refine hr_callV (C := R_Mod) (T := T_Mod) (N := 29) (As := [.int f_35, .int f_3]) (rest := []) ⟨hx, hb, hml, hown, hts⟩ (k_Mod_far l D cA cZ cL a d (tb [M 0, M 1, M 2, M 3, M 4, M 5, M 6, M 7, M 8, M 9, upd (M 10) k.toNatClampNeg f_5, upd (M 11) k.toNatClampNeg f_5, M 12, upd (M 13) k.toNatClampNeg (vp_nar .boolean 0)]) f_35 f_3 (by rw [ef_35, ef_34]; exact hb6) (by rw [ef_3, ef_2]; exact hh6)) (bv_V 2 hts mb_667 (hts _ mb_5) (hts _ mb_664) (hts _ mb_666) (hts _ mbp_14) (by decide +kernel) ⟨Nat.le_of_ble_eq_true rfl, Nat.le_of_ble_eq_true rfl⟩) hK hZ hP [0, 1, 2, 3, 4, 5, 6, 7, 8, 9, 10, 11, 12, 13] rfl 0 4 rfl rfl rfl hl.1 rfl (lv_room (Nat.le_of_ble_eq_true rfl)) d_Mod_workOut_205 ⟨Nat.zero_le _, Nat.zero_le _⟩ ?_
            refine lv_topi (fun f_42 ef_42 => ?_)
            refine lv_aload_n hx hb d_Mod_workOut_208 rfl (lv_at hl 5 rfl) ?_
            refine va_get (D := D) (ci := 4) (v := .int (M 0 6)) (C := R_Mod) (T := T_Mod) (N := 29) hx hb hts i_Mod hown hK hP 0 rfl rfl 12 (by decide) (hts _ mb_535) (fun _ h9 => h9) rfl d_Mod_workOut_209 ?_
            refine lv_icmp_gt (tgt := 239) hx hb d_Mod_workOut_212 (by decide) (fun c_43 => ?_) (fun c_43 => ?_)
            · skip
              refine lv_iconst (v := 0) hx hb d_Mod_workOut_239 (by decide) ?_
              exact J _ _ (by subst ef_42; simp only [if_neg c_41, if_pos c_43]) (lv_sub hl [0, 1, 2, 3, 4, 5, 6, 7, 8, 9, 10] rfl)
            · skip
              refine lv_iload hx hb d_Mod_workOut_215 (lv_at hl 4 rfl) ?_
              refine lv_aload_n hx hb d_Mod_workOut_217 rfl (lv_at hl 5 rfl) ?_
              refine va_get (D := D) (ci := 4) (v := .int (M 0 5)) (C := R_Mod) (T := T_Mod) (N := 29) hx hb hts i_Mod hown hK hP 0 rfl rfl 11 (by decide) (hts _ mb_534) (fun _ h9 => h9) rfl d_Mod_workOut_218 ?_
              refine lv_icmp_ge (tgt := 239) hx hb d_Mod_workOut_221 (by decide) (fun c_44 => ?_) (fun c_44 => ?_)
              · skip
                refine lv_iconst (v := 0) hx hb d_Mod_workOut_239 (by decide) ?_
                exact J _ _ (by subst ef_42; simp only [if_neg c_41, if_neg c_43, if_pos c_44]) (lv_sub hl [0, 1, 2, 3, 4, 5, 6, 7, 8, 9, 10] rfl)
              · skip
                refine lv_iload_n hx hb d_Mod_workOut_224 rfl (lv_at hl 7 rfl) ?_
                refine lv_iload hx hb d_Mod_workOut_225 (lv_at hl 2 rfl) ?_
                refine lv_isub hx hb d_Mod_workOut_227 ?_
                refine lv_topi (fun f_45 ef_45 => ?_)
                refine lv_aload_n hx hb d_Mod_workOut_228 rfl (lv_at hl 5 rfl) ?_
                refine va_get (D := D) (ci := 4) (v := .int (M 0 4)) (C := R_Mod) (T := T_Mod) (N := 29) hx hb hts i_Mod hown hK hP 0 rfl rfl 10 (by decide) (hts _ mb_533) (fun _ h9 => h9) rfl d_Mod_workOut_229 ?_
                refine lv_icmp_gt (tgt := 239) hx hb d_Mod_workOut_232 (by decide) (fun c_46 => ?_) (fun c_46 => ?_)
                · skip
                  refine lv_iconst (v := 0) hx hb d_Mod_workOut_239 (by decide) ?_
                  exact J _ _ (by subst ef_42 ef_45; simp only [if_neg c_41, if_neg c_43, if_neg c_44, if_pos c_46]) (lv_sub hl [0, 1, 2, 3, 4, 5, 6, 7, 8, 9, 10] rfl)
                · skip
                  refine lv_iconst (v := 1) hx hb d_Mod_workOut_235 (by decide) ?_
                  refine lv_goto (tgt := 240) hx hb d_Mod_workOut_236 (by decide) ?_
                  exact J _ _ (by subst ef_42 ef_45; simp only [if_neg c_41, if_neg c_43, if_neg c_44, if_neg c_46]) (lv_sub hl [0, 1, 2, 3, 4, 5, 6, 7, 8, 9, 10] rfl)
def r_Mod_workOut (M : Nat → Nat → Int32) (q : Int32) : Int32 × (Nat → Nat → Int32) := q_Mod_workOut q 8 0 0 1 (tb [(tv [M 0 0, M 0 1, M 0 2, M 0 3, M 0 4, M 0 5, M 0 6, M 0 7, M 0 8, M 0 9, M 0 10, M 0 11, M 0 12, 0, 0, 0]), M 1, M 2, M 3, M 4, M 5, M 6, M 7, M 8, M 9, M 10, M 11, M 12, M 13])
set_option maxHeartbeats 4000000 in
set_option maxRecDepth 100000 in
theorem k_Mod_workOut (l : Launch) (D : va_G) (cA cZ cL : ClassId) (a : Nat) (d : Nat → Nat) (M : Nat → Nat → Int32) (q : Int32) (hq : vp_in q 7) (hG : ∀ j, vp_in (M 1 j) 6) (hw : ∀ j : Nat, (j : Int) < q.toInt → vp_in (M 9 j) 12) : MetI l y_Mod_workOut (Cond.code y_Mod_workOut c_Mod_workOut 13 (some .boolean) :: base) ({ frames := 1, cells := 0, slots := 0, locals := 22 } : Room) D cls (tys3 cA cZ cL) ([.ref a, .int q]) (wMod cA cZ a d M) (r_Mod_workOut M q).1 (wMod cA cZ a d ((r_Mod_workOut M q).2)) := by
  intro sz
  refine Met.ofW (cc := c_Mod_workOut) (maxL := 13) (ret := (some .boolean)) (by decide) rfl ?_
  intro p e s m args below meth c s₁ B hml hv
  obtain ⟨rfl, hsz, hP, hK, hZ, hD0⟩ := hv
  have hx := B.exec
  have hb := B.bytes
  have hr := B.returns
  have hts0 := atoms_spec (ws := (Cond.code y_Mod_workOut c_Mod_workOut 13 (some .boolean) :: base)) B.pre
  have hts : ∀ w ∈ base, w.before _ s = true := fun w h => hts0 w (List.mem_cons_of_mem _ h)
  have hown : s.vm.findClass R_Mod = some m.cls := findClass_of_methodNamed B.named
  have hlocks := B.notSynchronized
  have hP : va_P D cls [(a, .inr (4, [.int (M 0 0), .int (M 0 1), .ref (d 1), .ref (d 2), .ref (d 3), .ref (d 4), .ref (d 5), .ref (d 6), .int (M 0 2), .int (M 0 3), .int (M 0 4), .int (M 0 5), .int (M 0 6), .int (M 0 7), .int (M 0 8), .ref (d 7), .int (M 0 9), .int (M 0 10), .int (M 0 11), .int (M 0 12), .ref (d 8), .ref (d 9), .ref (d 10), .ref (d 11), .ref (d 12), .ref (d 13), .int (M 0 13), .int (M 0 14), .int (M 0 15)])), (d 1, .inl (cA, 6, .inl (M 1))), (d 2, .inl (cA, 6, .inl (M 2))), (d 3, .inl (cA, 6, .inl (M 3))), (d 4, .inl (cA, 6, .inl (M 4))), (d 5, .inl (cA, 6, .inl (M 5))), (d 6, .inl (cA, 6, .inl (M 6))), (d 7, .inl (cA, 36, .inl (M 7))), (d 8, .inl (cA, 6, .inl (M 8))), (d 9, .inl (cA, 7, .inl (M 9))), (d 10, .inl (cA, 6, .inl (M 10))), (d 11, .inl (cA, 6, .inl (M 11))), (d 12, .inl (cA, 6, .inl (M 12))), (d 13, .inl (cZ, 6, .inl (M 13)))] s.heap := hP
  subst hsz
  have hD := hD0.self (sz := s.heap.size)
  generalize hAe : va_A (wMod cA cZ a d M) s.heap.size = A at hD ⊢
  have hA : ∀ q : Nat, s.heap.size ≤ q → A q := fun q h => by rw [← hAe]; exact Or.inr h
  have hS : va_S A s.heap s.heap [] := va_S.rf
  have hD : va_D A [(a, .inr (4, [.int (M 0 0), .int (M 0 1), .ref (d 1), .ref (d 2), .ref (d 3), .ref (d 4), .ref (d 5), .ref (d 6), .int (M 0 2), .int (M 0 3), .int (M 0 4), .int (M 0 5), .int (M 0 6), .int (M 0 7), .int (M 0 8), .ref (d 7), .int (M 0 9), .int (M 0 10), .int (M 0 11), .int (M 0 12), .ref (d 8), .ref (d 9), .ref (d 10), .ref (d 11), .ref (d 12), .ref (d 13), .int (M 0 13), .int (M 0 14), .int (M 0 15)])), (d 1, .inl (cA, 6, .inl (M 1))), (d 2, .inl (cA, 6, .inl (M 2))), (d 3, .inl (cA, 6, .inl (M 3))), (d 4, .inl (cA, 6, .inl (M 4))), (d 5, .inl (cA, 6, .inl (M 5))), (d 6, .inl (cA, 6, .inl (M 6))), (d 7, .inl (cA, 36, .inl (M 7))), (d 8, .inl (cA, 6, .inl (M 8))), (d 9, .inl (cA, 7, .inl (M 9))), (d 10, .inl (cA, 6, .inl (M 10))), (d 11, .inl (cA, 6, .inl (M 11))), (d 12, .inl (cA, 6, .inl (M 12))), (d 13, .inl (cZ, 6, .inl (M 13)))] := hD
  have hl := lv_entry ([.ref a, .int q]) (n := 13) (Nat.le_of_ble_eq_true rfl)
  rw [lg_entry_eq]
  generalize (lg_sl ([.ref a, .int q]) ++ List.replicate (13 - (lg_sl ([.ref a, .int q])).length) Slot.unset).toArray = ls at hl ⊢
  have hl : lv_has ls 13 [(0, .ref a), (1, .int q)] := hl
  refine lv_iconst (v := 0) hx hb d_Mod_workOut_0 (by decide) ?_
  refine lv_istore_n (lv' := [(2, .int 0), (0, .ref a), (1, .int q)]) hx hb d_Mod_workOut_1 rfl hl (by decide) rfl (fun ls hl => ?_)
  refine lv_iconst (v := 1) hx hb d_Mod_workOut_2 (by decide) ?_
  refine lv_istore_n (lv' := [(3, .int 1), (2, .int 0), (0, .ref a), (1, .int q)]) hx hb d_Mod_workOut_3 rfl hl (by decide) rfl (fun ls hl => ?_)
  refine lv_aload_n hx hb d_Mod_workOut_4 rfl (lv_at hl 2 rfl) ?_
  refine lv_iconst (v := 0) hx hb d_Mod_workOut_5 (by decide) ?_
  refine va_put (D := D) (ci := 4) (v := .int 0) (ty := .int) (C := R_Mod) (T := T_Mod) (N := 29) hx hb hts i_Mod t_Mod t_Mod_ok n_Mod hown hK hP hD hS 0 rfl rfl 26 (by decide) (hts _ mb_549) (fun _ h9 => h9) rfl (by decide +kernel) rfl rfl (Nat.le_of_ble_eq_true rfl) d_Mod_workOut_6 (fun H locs hP hD hS => ?_)
  have hP : va_P D cls [(a, .inr (4, [.int (M 0 0), .int (M 0 1), .ref (d 1), .ref (d 2), .ref (d 3), .ref (d 4), .ref (d 5), .ref (d 6), .int (M 0 2), .int (M 0 3), .int (M 0 4), .int (M 0 5), .int (M 0 6), .int (M 0 7), .int (M 0 8), .ref (d 7), .int (M 0 9), .int (M 0 10), .int (M 0 11), .int (M 0 12), .ref (d 8), .ref (d 9), .ref (d 10), .ref (d 11), .ref (d 12), .ref (d 13), .int 0, .int (M 0 14), .int (M 0 15)])), (d 1, .inl (cA, 6, .inl (M 1))), (d 2, .inl (cA, 6, .inl (M 2))), (d 3, .inl (cA, 6, .inl (M 3))), (d 4, .inl (cA, 6, .inl (M 4))), (d 5, .inl (cA, 6, .inl (M 5))), (d 6, .inl (cA, 6, .inl (M 6))), (d 7, .inl (cA, 36, .inl (M 7))), (d 8, .inl (cA, 6, .inl (M 8))), (d 9, .inl (cA, 7, .inl (M 9))), (d 10, .inl (cA, 6, .inl (M 10))), (d 11, .inl (cA, 6, .inl (M 11))), (d 12, .inl (cA, 6, .inl (M 12))), (d 13, .inl (cZ, 6, .inl (M 13)))] H := hP
  have hD : va_D A [(a, .inr (4, [.int (M 0 0), .int (M 0 1), .ref (d 1), .ref (d 2), .ref (d 3), .ref (d 4), .ref (d 5), .ref (d 6), .int (M 0 2), .int (M 0 3), .int (M 0 4), .int (M 0 5), .int (M 0 6), .int (M 0 7), .int (M 0 8), .ref (d 7), .int (M 0 9), .int (M 0 10), .int (M 0 11), .int (M 0 12), .ref (d 8), .ref (d 9), .ref (d 10), .ref (d 11), .ref (d 12), .ref (d 13), .int 0, .int (M 0 14), .int (M 0 15)])), (d 1, .inl (cA, 6, .inl (M 1))), (d 2, .inl (cA, 6, .inl (M 2))), (d 3, .inl (cA, 6, .inl (M 3))), (d 4, .inl (cA, 6, .inl (M 4))), (d 5, .inl (cA, 6, .inl (M 5))), (d 6, .inl (cA, 6, .inl (M 6))), (d 7, .inl (cA, 36, .inl (M 7))), (d 8, .inl (cA, 6, .inl (M 8))), (d 9, .inl (cA, 7, .inl (M 9))), (d 10, .inl (cA, 6, .inl (M 10))), (d 11, .inl (cA, 6, .inl (M 11))), (d 12, .inl (cA, 6, .inl (M 12))), (d 13, .inl (cZ, 6, .inl (M 13)))] := hD
  refine lv_aload_n hx hb d_Mod_workOut_9 rfl (lv_at hl 2 rfl) ?_
  refine lv_iconst (v := 0) hx hb d_Mod_workOut_10 (by decide) ?_
  refine va_put (D := D) (ci := 4) (v := .int 0) (ty := .int) (C := R_Mod) (T := T_Mod) (N := 29) hx hb hts i_Mod t_Mod t_Mod_ok n_Mod hown hK hP hD hS 0 rfl rfl 27 (by decide) (hts _ mb_550) (fun _ h9 => h9) rfl (by decide +kernel) rfl rfl (Nat.le_of_ble_eq_true rfl) d_Mod_workOut_11 (fun H locs hP hD hS => ?_)
  have hP : va_P D cls [(a, .inr (4, [.int (M 0 0), .int (M 0 1), .ref (d 1), .ref (d 2), .ref (d 3), .ref (d 4), .ref (d 5), .ref (d 6), .int (M 0 2), .int (M 0 3), .int (M 0 4), .int (M 0 5), .int (M 0 6), .int (M 0 7), .int (M 0 8), .ref (d 7), .int (M 0 9), .int (M 0 10), .int (M 0 11), .int (M 0 12), .ref (d 8), .ref (d 9), .ref (d 10), .ref (d 11), .ref (d 12), .ref (d 13), .int 0, .int 0, .int (M 0 15)])), (d 1, .inl (cA, 6, .inl (M 1))), (d 2, .inl (cA, 6, .inl (M 2))), (d 3, .inl (cA, 6, .inl (M 3))), (d 4, .inl (cA, 6, .inl (M 4))), (d 5, .inl (cA, 6, .inl (M 5))), (d 6, .inl (cA, 6, .inl (M 6))), (d 7, .inl (cA, 36, .inl (M 7))), (d 8, .inl (cA, 6, .inl (M 8))), (d 9, .inl (cA, 7, .inl (M 9))), (d 10, .inl (cA, 6, .inl (M 10))), (d 11, .inl (cA, 6, .inl (M 11))), (d 12, .inl (cA, 6, .inl (M 12))), (d 13, .inl (cZ, 6, .inl (M 13)))] H := hP
  have hD : va_D A [(a, .inr (4, [.int (M 0 0), .int (M 0 1), .ref (d 1), .ref (d 2), .ref (d 3), .ref (d 4), .ref (d 5), .ref (d 6), .int (M 0 2), .int (M 0 3), .int (M 0 4), .int (M 0 5), .int (M 0 6), .int (M 0 7), .int (M 0 8), .ref (d 7), .int (M 0 9), .int (M 0 10), .int (M 0 11), .int (M 0 12), .ref (d 8), .ref (d 9), .ref (d 10), .ref (d 11), .ref (d 12), .ref (d 13), .int 0, .int 0, .int (M 0 15)])), (d 1, .inl (cA, 6, .inl (M 1))), (d 2, .inl (cA, 6, .inl (M 2))), (d 3, .inl (cA, 6, .inl (M 3))), (d 4, .inl (cA, 6, .inl (M 4))), (d 5, .inl (cA, 6, .inl (M 5))), (d 6, .inl (cA, 6, .inl (M 6))), (d 7, .inl (cA, 36, .inl (M 7))), (d 8, .inl (cA, 6, .inl (M 8))), (d 9, .inl (cA, 7, .inl (M 9))), (d 10, .inl (cA, 6, .inl (M 10))), (d 11, .inl (cA, 6, .inl (M 11))), (d 12, .inl (cA, 6, .inl (M 12))), (d 13, .inl (cZ, 6, .inl (M 13)))] := hD
  refine lv_aload_n hx hb d_Mod_workOut_14 rfl (lv_at hl 2 rfl) ?_
  refine lv_iconst (v := 0) hx hb d_Mod_workOut_15 (by decide) ?_
  refine va_put (D := D) (ci := 4) (v := .int 0) (ty := .int) (C := R_Mod) (T := T_Mod) (N := 29) hx hb hts i_Mod t_Mod t_Mod_ok n_Mod hown hK hP hD hS 0 rfl rfl 28 (by decide) (hts _ mb_551) (fun _ h9 => h9) rfl (by decide +kernel) rfl rfl (Nat.le_of_ble_eq_true rfl) d_Mod_workOut_16 (fun H locs hP hD hS => ?_)
  have hP : va_P D cls [(a, .inr (4, [.int (M 0 0), .int (M 0 1), .ref (d 1), .ref (d 2), .ref (d 3), .ref (d 4), .ref (d 5), .ref (d 6), .int (M 0 2), .int (M 0 3), .int (M 0 4), .int (M 0 5), .int (M 0 6), .int (M 0 7), .int (M 0 8), .ref (d 7), .int (M 0 9), .int (M 0 10), .int (M 0 11), .int (M 0 12), .ref (d 8), .ref (d 9), .ref (d 10), .ref (d 11), .ref (d 12), .ref (d 13), .int 0, .int 0, .int 0])), (d 1, .inl (cA, 6, .inl (M 1))), (d 2, .inl (cA, 6, .inl (M 2))), (d 3, .inl (cA, 6, .inl (M 3))), (d 4, .inl (cA, 6, .inl (M 4))), (d 5, .inl (cA, 6, .inl (M 5))), (d 6, .inl (cA, 6, .inl (M 6))), (d 7, .inl (cA, 36, .inl (M 7))), (d 8, .inl (cA, 6, .inl (M 8))), (d 9, .inl (cA, 7, .inl (M 9))), (d 10, .inl (cA, 6, .inl (M 10))), (d 11, .inl (cA, 6, .inl (M 11))), (d 12, .inl (cA, 6, .inl (M 12))), (d 13, .inl (cZ, 6, .inl (M 13)))] H := hP
  have hD : va_D A [(a, .inr (4, [.int (M 0 0), .int (M 0 1), .ref (d 1), .ref (d 2), .ref (d 3), .ref (d 4), .ref (d 5), .ref (d 6), .int (M 0 2), .int (M 0 3), .int (M 0 4), .int (M 0 5), .int (M 0 6), .int (M 0 7), .int (M 0 8), .ref (d 7), .int (M 0 9), .int (M 0 10), .int (M 0 11), .int (M 0 12), .ref (d 8), .ref (d 9), .ref (d 10), .ref (d 11), .ref (d 12), .ref (d 13), .int 0, .int 0, .int 0])), (d 1, .inl (cA, 6, .inl (M 1))), (d 2, .inl (cA, 6, .inl (M 2))), (d 3, .inl (cA, 6, .inl (M 3))), (d 4, .inl (cA, 6, .inl (M 4))), (d 5, .inl (cA, 6, .inl (M 5))), (d 6, .inl (cA, 6, .inl (M 6))), (d 7, .inl (cA, 36, .inl (M 7))), (d 8, .inl (cA, 6, .inl (M 8))), (d 9, .inl (cA, 7, .inl (M 9))), (d 10, .inl (cA, 6, .inl (M 10))), (d 11, .inl (cA, 6, .inl (M 11))), (d 12, .inl (cA, 6, .inl (M 12))), (d 13, .inl (cZ, 6, .inl (M 13)))] := hD
  refine lv_iconst (v := 0) hx hb d_Mod_workOut_19 (by decide) ?_
  refine lv_istore (lv' := [(4, .int 0), (3, .int 1), (2, .int 0), (0, .ref a), (1, .int q)]) hx hb d_Mod_workOut_20 hl (by decide) rfl (fun ls hl => ?_)
  have e9 : r_Mod_workOut M q = q_Mod_workOut q 8 0 0 1 (tb [(tv [M 0 0, M 0 1, M 0 2, M 0 3, M 0 4, M 0 5, M 0 6, M 0 7, M 0 8, M 0 9, M 0 10, M 0 11, M 0 12, 0, 0, 0]), M 1, M 2, M 3, M 4, M 5, M 6, M 7, M 8, M 9, M 10, M 11, M 12, M 13]) := by
    rfl
  rw [e9]
  exact (lp_Mod_workOut a d q hq hx hb hr hml hts hown hlocks hK hZ hA 8) 0 0 1 (tb [(tv [M 0 0, M 0 1, M 0 2, M 0 3, M 0 4, M 0 5, M 0 6, M 0 7, M 0 8, M 0 9, M 0 10, M 0 11, M 0 12, 0, 0, 0]), M 1, M 2, M 3, M 4, M 5, M 6, M 7, M 8, M 9, M 10, M 11, M 12, M 13]) ⟨by decide, Or.inr rfl, hG, hw⟩ _ _ (hP.sub [0, 1, 2, 3, 4, 5, 6, 7, 8, 9, 10, 11, 12, 13] rfl) (hD.sub [0, 1, 2, 3, 4, 5, 6, 7, 8, 9, 10, 11, 12, 13] (by decide) rfl) hS _ (lv_sub hl [0, 2, 1, 3, 4] rfl)
