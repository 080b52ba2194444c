/-! the model: search -/
def SIv (M : Nat → Nat → Int32) (k i : Int32) : Prop := (∃ n : Nat, n ≤ 6 ∧ M 0 1 = nI n) ∧ (∀ j, vp_in (M 1 j) 6) ∧ (-1 ≤ k.toInt ∧ k.toInt < i.toInt) ∧ (∀ j : Nat, (j : Int) < k.toInt → vp_in (M 9 j) 12 ∧ (M 9 j).toInt < 2 * (M 0 1).toInt) ∧ (0 ≤ k.toInt → -1 ≤ (M 9 k.toNatClampNeg).toInt ∧ (M 9 k.toNatClampNeg).toInt < 2 * (M 0 1).toInt)
theorem SIv.of {M M2 : Nat → Nat → Int32} {k i : Int32} (e0 : M2 0 1 = M 0 1) (e1 : M2 1 = M 1) (e9 : M2 9 = M 9) (h : SIv M k i) : SIv M2 k i := by
  unfold SIv at *
  rw [e0, e1, e9]
  exact h
theorem SIv.k6 {M : Nat → Nat → Int32} {k i : Int32} (h : SIv M k i) (hi : i.toInt ≤ 6) (hc : ¬ k < 0) : vp_in k 6 := by
  have h1 := h.2.2.1
  exact in_of hc (by omega)
theorem cl_e {x : Int32} {n : Nat} (h : vp_in x n) : ((x.toNatClampNeg : Nat) : Int) = x.toInt := by
  have h1 := vp_in_iff.mp h
  show ((x.toInt.toNat : Nat) : Int) = x.toInt
  omega
theorem ti_inc {x : Int32} (h1 : -1 ≤ x.toInt) (h2 : x.toInt < 12) : (x + 1).toInt = x.toInt + 1 := by
  rw [Int32.toInt_add]
  have e : (1 : Int32).toInt = 1 := by decide
  rw [e]
  exact Int.bmod_eq_of_le (by omega) (by omega)
theorem ti_dbl {N : Int32} (hN : ∃ n : Nat, n ≤ 6 ∧ N = nI n) : (2 * N).toInt = 2 * N.toInt := by
  obtain ⟨n, hn, rfl⟩ := hN
  exact (by decide : ∀ n, n ≤ 6 → (2 * nI n).toInt = 2 * (nI n).toInt) n hn
theorem ti_N {N : Int32} (hN : ∃ n : Nat, n ≤ 6 ∧ N = nI n) : 0 ≤ N.toInt ∧ N.toInt ≤ 6 := by
  obtain ⟨n, hn, rfl⟩ := hN
  rw [nI_toInt (by omega)]
  omega
theorem S_inc {M M1 : Nat → Nat → Int32} {k i : Int32} (h : SIv M k i) (hk : vp_in k 6) (e : M1 = tb [M 0, M 1, M 2, M 3, M 4, M 5, M 6, M 7, M 8, upd (M 9) k.toNatClampNeg (M 9 k.toNatClampNeg + 1), M 10, M 11, M 12, M 13]) : (M1 9 k.toNatClampNeg = 2 * M1 0 1 → SIv M1 (k + (-1)) i) ∧ (¬ M1 9 k.toNatClampNeg = 2 * M1 0 1 → SIv M1 k i ∧ ∀ j : Nat, (j : Int) < (k + 1).toInt → vp_in (M1 9 j) 12) := by
  obtain ⟨hN, hG, hki, hj, hkk⟩ := h
  have e0 : M1 0 1 = M 0 1 := by rw [e]; rfl
  have e1 : M1 1 = M 1 := by rw [e]; rfl
  have e9 : M1 9 = upd (M 9) k.toNatClampNeg (M 9 k.toNatClampNeg + 1) := by rw [e]; rfl
  have hk8 := vp_in_iff.mp hk
  have hc := cl_e hk
  have hb := hkk hk8.1
  have hn := ti_N hN
  have hinc := ti_inc (x := M 9 k.toNatClampNeg) hb.1 (by omega)
  have eb : M1 9 k.toNatClampNeg = M 9 k.toNatClampNeg + 1 := by rw [e9]; exact pk_us
  have eo : ∀ j : Nat, j ≠ k.toNatClampNeg → M1 9 j = M 9 j := fun j hne => by rw [e9]; exact pk_un hne
  have hd := ti_dbl hN
  constructor
  · intro hp
    have hdec := in6_dec hk
    refine ⟨by rw [e0]; exact hN, by rw [e1]; exact hG, by omega, fun j hjk => ?_, fun h0 => ?_⟩
    · rw [e0, eo j (by omega)]
      exact hj j (by omega)
    · have hkv : vp_in (k + (-1)) 6 := by rw [vp_in_iff]; omega
      have hcv := cl_e hkv
      rw [e0, eo _ (by omega)]
      have h3 := hj (k + (-1)).toNatClampNeg (by omega)
      have h4 := vp_in_iff.mp h3.1
      omega
  · intro hp
    have hlt : (M1 9 k.toNatClampNeg).toInt < 2 * (M 0 1).toInt := by
      rw [eb, hinc]
      rcases Int.lt_or_le ((M 9 k.toNatClampNeg).toInt + 1) (2 * (M 0 1).toInt) with h5 | h5
      · exact h5
      · refine absurd ?_ hp
        rw [e0]
        apply Int32.toInt_inj.mp
        rw [hd, eb, hinc]
        omega
    refine ⟨⟨by rw [e0]; exact hN, by rw [e1]; exact hG, hki, fun j hjk => ?_, fun _ => ?_⟩, fun j hj1 => ?_⟩
    · rw [e0, eo j (by omega)]
      exact hj j hjk
    · rw [e0]
      refine ⟨?_, hlt⟩
      rw [eb, hinc]
      omega
    · rw [toInt_s hk (by decide)] at hj1
      by_cases hjk : j = k.toNatClampNeg
      · rw [hjk, vp_in_iff]
        refine ⟨?_, ?_⟩
        · rw [eb, hinc]; omega
        · have : (M1 9 k.toNatClampNeg).toInt < 12 := by omega
          exact this
      · rw [eo j hjk]
        exact (hj j (by omega)).1
theorem S_desc {M M1 : Nat → Nat → Int32} {k i x f : Int32} (h : SIv M k i) (hk : vp_in k 6) (hi7 : i.toInt ≤ 6) (hw : ∀ j : Nat, (j : Int) < (k + 1).toInt → vp_in (M 9 j) 12) (ex : x = k + 1) (ef : f = k + 1) (hne : ¬ f = i) (e0 : M1 0 1 = M 0 1) (e1 : M1 1 = M 1) (e9 : M1 9 = upd (M 9) x.toNatClampNeg (-1)) : SIv M1 x i := by
  obtain ⟨hN, hG, hki, hj, hkk⟩ := h
  have hk8 := vp_in_iff.mp hk
  have hs := toInt_s hk (by decide)
  have hx7 : vp_in x 7 := by rw [ex]; exact in_s hk (by decide)
  have hxc := cl_e hx7
  have hkc := cl_e hk
  have hn := ti_N hN
  have exi : x.toInt = k.toInt + 1 := by rw [ex, hs]
  have hxi : x.toInt < i.toInt := by
    have : x.toInt ≠ i.toInt := fun q => hne (by rw [ef, ← ex]; exact Int32.toInt_inj.mp q)
    omega
  refine ⟨by rw [e0]; exact hN, by rw [e1]; exact hG, by omega, fun j hjk => ?_, fun _ => ?_⟩
  · rw [e0, e9, pk_un (by omega)]
    refine ⟨hw j (by rw [hs]; omega), ?_⟩
    by_cases hjq : (j : Int) < k.toInt
    · exact (hj j hjq).2
    · have ejk : j = k.toNatClampNeg := by omega
      rw [ejk]
      exact (hkk hk8.1).2
  · rw [e0, e9, pk_us]
    have e1' : (-1 : Int32).toInt = -1 := by decide
    rw [e1']
    refine ⟨by omega, ?_⟩
    omega
theorem S_0 {M M1 : Nat → Nat → Int32} {i : Int32} (hN : ∃ n : Nat, n ≤ 6 ∧ M 0 1 = nI n) (hG : ∀ j, vp_in (M 1 j) 6) (h0 : ¬ i = 0) (hi : 0 ≤ i.toInt) (e0 : M1 0 1 = M 0 1) (e1 : M1 1 = M 1) (e9 : M1 9 = upd (M 9) (0 : Int32).toNatClampNeg (-1)) : SIv M1 0 i := by
  have hz : (0 : Int32).toInt = 0 := by decide
  have hi0 : i.toInt ≠ 0 := fun q => h0 (Int32.toInt_inj.mp (by rw [q, hz]))
  have hn := ti_N hN
  refine ⟨by rw [e0]; exact hN, by rw [e1]; exact hG, by omega, fun j hj => absurd hj (by omega), fun _ => ?_⟩
  rw [e0, e9, pk_us]
  have e1' : (-1 : Int32).toInt = -1 := by decide
  rw [e1']
  omega
theorem ti_add {i c : Int32} (h0 : 0 ≤ i.toInt) (h6 : i.toInt ≤ 6) (hc : vp_in c 2) : (i + c).toInt = i.toInt + c.toInt := by
  have h1 := vp_in_iff.mp hc
  rw [Int32.toInt_add]
  exact Int.bmod_eq_of_le (by omega) (by omega)
theorem in_lti {i h : Int32} (hi : i.toInt ≤ 6) (h0 : 0 ≤ h.toInt) (hc : ¬ i ≤ h) : vp_in h 6 := by
  rw [Int32.le_iff_toInt_le] at hc
  rw [vp_in_iff]
  omega
def b_Mod_search_6 (M : (Nat → Nat → Int32)) (q : Int32) : Nat → Int32 → Int32 → Int32
  | 0, _, _ => (0)
  | n + 1, h, i => if M 0 1 ≤ h then (i) else (let f_2 : Int32 := q >>> (h &&& 31); let f_3 : Int32 := f_2 &&& 1; let f_4 : Int32 := i + f_3; let x_5 : Int32 := h + 1; b_Mod_search_6 M q n x_5 f_4)
set_option maxHeartbeats 4000000 in
set_option maxRecDepth 100000 in
theorem lb_Mod_search_6 {p : Program} {l : Launch} {e : Env} {R : Room} {s : State} {m : MethodId} {args : Array Value} {below : List Frame} {meth : Method} {c : Code} {cells slots : Nat} {Q : State → Prop} {D : va_G} {cA cZ cL : ClassId} {a : Nat} {d : Nat → Nat} {M : (Nat → Nat → Int32)} {q v2 v3 : Int32} (hx : p.tables.exec = Jvm.exec) (hb : c.code = c_Mod_search) (hts : ∀ w ∈ base, w.before args s = true) (hown : s.vm.findClass R_Mod = some m.cls) (hK : va_K D cls (tys3 cA cZ cL) s) {H : Heap} {locs : List Loc} (hN : ∃ n : Nat, n ≤ 6 ∧ M 0 1 = nI n) (hP : va_P D cls [(a, .inr (4, [.int (M 0 0), .int (M 0 1), .ref (d 1), .ref (d 2), .ref (d 3), .ref (d 4), .ref (d 5), .ref (d 6), .int (M 0 2), .int (M 0 3), .int (M 0 4), .int (M 0 5), .int (M 0 6), .int (M 0 7), .int (M 0 8), .ref (d 7), .int (M 0 9), .int (M 0 10), .int (M 0 11), .int (M 0 12), .ref (d 8), .ref (d 9), .ref (d 10), .ref (d 11), .ref (d 12), .ref (d 13), .int (M 0 13), .int (M 0 14), .int (M 0 15)])), (d 1, .inl (cA, 6, .inl (M 1))), (d 2, .inl (cA, 6, .inl (M 2))), (d 3, .inl (cA, 6, .inl (M 3))), (d 4, .inl (cA, 6, .inl (M 4))), (d 5, .inl (cA, 6, .inl (M 5))), (d 6, .inl (cA, 6, .inl (M 6))), (d 7, .inl (cA, 36, .inl (M 7))), (d 8, .inl (cA, 6, .inl (M 8))), (d 9, .inl (cA, 7, .inl (M 9))), (d 10, .inl (cA, 6, .inl (M 10))), (d 11, .inl (cA, 6, .inl (M 11))), (d 12, .inl (cA, 6, .inl (M 12))), (d 13, .inl (cZ, 6, .inl (M 13)))] H) : ∀ (n : Nat) (h : Int32) (i : Int32), ((0 ≤ h.toInt ∧ h.toInt ≤ 6 ∧ 7 < h.toInt + (n : Int)) ∧ (0 ≤ i.toInt ∧ i.toInt ≤ h.toInt)) → (∀ (y1 : Int32) (ls : Array Slot), y1 = (b_Mod_search_6 M q n h i) → (0 ≤ y1.toInt ∧ y1.toInt ≤ 6) → lv_has ls 10 [(4, .int y1), (0, .ref a), (1, .int q), (2, .int v2), (3, .int v3)] → W p l e R s m args below meth c H locs cells slots Q (F0 m 32 ls [])) → ∀ ls : Array Slot, lv_has ls 10 [(5, .int h), (4, .int i), (0, .ref a), (1, .int q), (2, .int v2), (3, .int v3)] → W p l e R s m args below meth c H locs cells slots Q (F0 m 6 ls []) := by
  intro n
  induction n with
  | zero =>
    intro h i hi
    exact absurd hi (by rintro ⟨h, -⟩; omega)
  | succ n ih =>
    intro h i hi hk ls hl
    refine lv_iload hx hb d_Mod_search_6 (lv_at hl 0 rfl) ?_
    refine lv_aload_n hx hb d_Mod_search_8 rfl (lv_at hl 2 rfl) ?_
    refine va_get (D := D) (ci := 4) (v := .int (M 0 1)) (C := R_Mod) (T := T_Mod) (N := 29) hx hb hts i_Mod hown hK hP 0 rfl rfl 1 (by decide) (hts _ mb_527) (fun _ h9 => h9) rfl d_Mod_search_9 ?_
    refine lv_icmp_ge (tgt := 32) hx hb d_Mod_search_12 (by decide) (fun c_1 => ?_) (fun c_1 => ?_)
    · skip
      have e9 : b_Mod_search_6 M q (n + 1) h i = i := by
        rw [b_Mod_search_6]; simp only [if_pos c_1]
      exact hk _ _ (by rw [e9]) ⟨hi.2.1, by have h5 := hi.1; have h6 := hi.2; omega⟩ (lv_sub hl [1, 2, 3, 4, 5] rfl)
    · skip
      have hh6 : vp_in h 6 := in_lt hN hi.1.1 c_1
      refine lv_iload hx hb d_Mod_search_15 (lv_at hl 1 rfl) ?_
      refine lv_iload_n hx hb d_Mod_search_17 rfl (lv_at hl 3 rfl) ?_
      refine lv_iload hx hb d_Mod_search_18 (lv_at hl 0 rfl) ?_
      refine lv_ishr hx hb d_Mod_search_20 ?_
      refine lv_topi (fun f_2 ef_2 => ?_)
      refine lv_iconst (v := 1) hx hb d_Mod_search_21 (by decide) ?_
      refine lv_iand hx hb d_Mod_search_22 ?_
      refine lv_topi (fun f_3 ef_3 => ?_)
      refine lv_iadd hx hb d_Mod_search_23 ?_
      refine lv_topi (fun f_4 ef_4 => ?_)
      refine lv_istore (lv' := [(4, .int f_4), (5, .int h), (0, .ref a), (1, .int q), (2, .int v2), (3, .int v3)]) hx hb d_Mod_search_24 hl (by decide) rfl (fun ls hl => ?_)
      obtain ⟨x_5, ex_5⟩ : ∃ y : Int32, y = h + 1 := ⟨_, rfl⟩
      refine lv_iinc (v := x_5) (lv' := [(5, .int x_5), (4, .int f_4), (0, .ref a), (1, .int q), (2, .int v2), (3, .int v3)]) hx hb d_Mod_search_26 hl (k := 1) rfl (by rw [ex_5]; rfl) (by decide) rfl (fun ls hl => ?_)
      refine lv_goto (tgt := 6) hx hb d_Mod_search_29 (by decide) ?_
      have e9 : b_Mod_search_6 M q (n + 1) h i = b_Mod_search_6 M q n x_5 f_4 := by
        subst ef_2 ef_3 ef_4 ex_5; rw [b_Mod_search_6]; simp only [if_neg c_1]
      rw [e9] at hk
      exact ih x_5 f_4 ⟨by rw [ex_5, toInt_s hh6 (by decide)]; have h8 := vp_in_iff.mp hh6; omega, by have h5 := hi.1; have h6 := hi.2; have hb2 : vp_in f_3 2 := (by rw [ef_3]; exact pk_andIn _ 1 (by decide) (by decide)); have h7 := vp_in_iff.mp hb2; rw [ex_5, ef_4, toInt_s hh6 (by decide), ti_add h6.1 (by omega) hb2]; omega⟩ hk _ (lv_sub hl [0, 1, 2, 3, 4, 5] rfl)
def b_Mod_search_221 (i : Int32) : Nat → Int32 → (Nat → Nat → Int32) → (Nat → Nat → Int32)
  | 0, _, M => M
  | n + 1, h, M => if i ≤ h then (M) else (let f_2 : Int32 := M 9 h.toNatClampNeg; let x_3 : Int32 := h + 1; b_Mod_search_221 i n x_3 (tb [M 0, M 1, M 2, M 3, M 4, M 5, M 6, M 7, upd (M 8) h.toNatClampNeg f_2, M 9, M 10, M 11, M 12, M 13]))
set_option maxHeartbeats 4000000 in
set_option maxRecDepth 100000 in
theorem lb_Mod_search_221 {p : Program} {l : Launch} {e : Env} {R : Room} {s : State} {m : MethodId} {args : Array Value} {below : List Frame} {meth : Method} {c : Code} {cells slots : Nat} {Q : State → Prop} {D : va_G} {cA cZ cL : ClassId} {a : Nat} {d : Nat → Nat} {A : Nat → Prop} {H0 : Heap} {v1 v2 v3 i v5 v6 v7 : Int32} (hx : p.tables.exec = Jvm.exec) (hb : c.code = c_Mod_search) (hts : ∀ w ∈ base, w.before args s = true) (hown : s.vm.findClass R_Mod = some m.cls) (hK : va_K D cls (tys3 cA cZ cL) s) (hi7 : i.toInt ≤ 6) : ∀ (n : Nat) (h : Int32) (M : (Nat → Nat → Int32)), (0 ≤ h.toInt ∧ h.toInt ≤ 6 ∧ 7 < h.toInt + (n : Int)) → (∀ (ls : Array Slot), ((b_Mod_search_221 i n h M) 0 = M 0 ∧ (b_Mod_search_221 i n h M) 1 = M 1 ∧ (b_Mod_search_221 i n h M) 9 = M 9) → ∀ (H : Heap) (locs : List Loc), va_P D cls (wMod cA cZ a d (b_Mod_search_221 i n h M)) H → va_D A (wMod cA cZ a d (b_Mod_search_221 i n h M)) → va_S A H0 H locs → lv_has ls 10 [(0, .ref a), (1, .int v1), (2, .int v2), (3, .int v3), (4, .int i), (5, .int v5), (6, .int v6), (7, .int v7)] → W p l e R s m args below meth c H locs cells slots Q (F0 m 248 ls [])) → ∀ (H : Heap) (locs : List Loc), va_P D cls [(a, .inr (4, [.int (M 0 0), .int (M 0 1), .ref (d 1), .ref (d 2), .ref (d 3), .ref (d 4), .ref (d 5), .ref (d 6), .int (M 0 2), .int (M 0 3), .int (M 0 4), .int (M 0 5), .int (M 0 6), .int (M 0 7), .int (M 0 8), .ref (d 7), .int (M 0 9), .int (M 0 10), .int (M 0 11), .int (M 0 12), .ref (d 8), .ref (d 9), .ref (d 10), .ref (d 11), .ref (d 12), .ref (d 13), .int (M 0 13), .int (M 0 14), .int (M 0 15)])), (d 1, .inl (cA, 6, .inl (M 1))), (d 2, .inl (cA, 6, .inl (M 2))), (d 3, .inl (cA, 6, .inl (M 3))), (d 4, .inl (cA, 6, .inl (M 4))), (d 5, .inl (cA, 6, .inl (M 5))), (d 6, .inl (cA, 6, .inl (M 6))), (d 7, .inl (cA, 36, .inl (M 7))), (d 8, .inl (cA, 6, .inl (M 8))), (d 9, .inl (cA, 7, .inl (M 9))), (d 10, .inl (cA, 6, .inl (M 10))), (d 11, .inl (cA, 6, .inl (M 11))), (d 12, .inl (cA, 6, .inl (M 12))), (d 13, .inl (cZ, 6, .inl (M 13)))] H → va_D A [(a, .inr (4, [.int (M 0 0), .int (M 0 1), .ref (d 1), .ref (d 2), .ref (d 3), .ref (d 4), .ref (d 5), .ref (d 6), .int (M 0 2), .int (M 0 3), .int (M 0 4), .int (M 0 5), .int (M 0 6), .int (M 0 7), .int (M 0 8), .ref (d 7), .int (M 0 9), .int (M 0 10), .int (M 0 11), .int (M 0 12), .ref (d 8), .ref (d 9), .ref (d 10), .ref (d 11), .ref (d 12), .ref (d 13), .int (M 0 13), .int (M 0 14), .int (M 0 15)])), (d 1, .inl (cA, 6, .inl (M 1))), (d 2, .inl (cA, 6, .inl (M 2))), (d 3, .inl (cA, 6, .inl (M 3))), (d 4, .inl (cA, 6, .inl (M 4))), (d 5, .inl (cA, 6, .inl (M 5))), (d 6, .inl (cA, 6, .inl (M 6))), (d 7, .inl (cA, 36, .inl (M 7))), (d 8, .inl (cA, 6, .inl (M 8))), (d 9, .inl (cA, 7, .inl (M 9))), (d 10, .inl (cA, 6, .inl (M 10))), (d 11, .inl (cA, 6, .inl (M 11))), (d 12, .inl (cA, 6, .inl (M 12))), (d 13, .inl (cZ, 6, .inl (M 13)))] → va_S A H0 H locs → ∀ ls : Array Slot, lv_has ls 10 [(9, .int h), (0, .ref a), (1, .int v1), (2, .int v2), (3, .int v3), (4, .int i), (5, .int v5), (6, .int v6), (7, .int v7)] → W p l e R s m args below meth c H locs cells slots Q (F0 m 221 ls []) := by
  intro n
  induction n with
  | zero =>
    intro h M hi
    exact absurd hi (by omega)
  | succ n ih =>
    intro h M hi hk H locs hP hD hS ls hl
    refine lv_iload hx hb d_Mod_search_221 (lv_at hl 0 rfl) ?_
    refine lv_iload hx hb d_Mod_search_223 (lv_at hl 5 rfl) ?_
    refine lv_icmp_ge (tgt := 248) hx hb d_Mod_search_225 (by decide) (fun c_1 => ?_) (fun c_1 => ?_)
    · skip
      have e9 : b_Mod_search_221 i (n + 1) h M = M := by
        rw [b_Mod_search_221]; simp only [if_pos c_1]
      exact hk _  (by rw [e9]; exact ⟨rfl, rfl, rfl⟩) _ _ (by rw [e9]; exact hP.sub [0, 1, 2, 3, 4, 5, 6, 7, 8, 9, 10, 11, 12, 13] rfl) (by rw [e9]; exact hD.sub [0, 1, 2, 3, 4, 5, 6, 7, 8, 9, 10, 11, 12, 13] (by decide) rfl) hS (lv_sub hl [1, 2, 3, 4, 5, 6, 7, 8] rfl)
    · skip
      have hh6 : vp_in h 6 := in_lti hi7 hi.1 c_1
      refine lv_aload_n hx hb d_Mod_search_228 rfl (lv_at hl 1 rfl) ?_
      refine va_get (D := D) (ci := 4) (v := .ref (d 8)) (C := R_Mod) (T := T_Mod) (N := 29) hx hb hts i_Mod hown hK hP 0 rfl rfl 20 (by decide) (hts _ mb_546) (fun _ h9 => h9) rfl d_Mod_search_229 ?_
      refine lv_iload hx hb d_Mod_search_232 (lv_at hl 0 rfl) ?_
      refine lv_aload_n hx hb d_Mod_search_234 rfl (lv_at hl 1 rfl) ?_
      refine va_get (D := D) (ci := 4) (v := .ref (d 9)) (C := R_Mod) (T := T_Mod) (N := 29) hx hb hts i_Mod hown hK hP 0 rfl rfl 21 (by decide) (hts _ mb_547) (fun _ h9 => h9) rfl d_Mod_search_235 ?_
      refine lv_iload hx hb d_Mod_search_238 (lv_at hl 0 rfl) ?_
      refine va_iald hx hb hK hP 9 0 rfl rfl (in_le hh6 (by decide)) d_Mod_search_240 ?_
      refine lv_topi (fun f_2 ef_2 => ?_)
      refine va_iast hx hb hK hP hD hS 8 0 rfl rfl hh6 d_Mod_search_241 (fun H locs hP hD hS => ?_)
      have hP : va_P D cls [(a, .inr (4, [.int (M 0 0), .int (M 0 1), .ref (d 1), .ref (d 2), .ref (d 3), .ref (d 4), .ref (d 5), .ref (d 6), .int (M 0 2), .int (M 0 3), .int (M 0 4), .int (M 0 5), .int (M 0 6), .int (M 0 7), .int (M 0 8), .ref (d 7), .int (M 0 9), .int (M 0 10), .int (M 0 11), .int (M 0 12), .ref (d 8), .ref (d 9), .ref (d 10), .ref (d 11), .ref (d 12), .ref (d 13), .int (M 0 13), .int (M 0 14), .int (M 0 15)])), (d 1, .inl (cA, 6, .inl (M 1))), (d 2, .inl (cA, 6, .inl (M 2))), (d 3, .inl (cA, 6, .inl (M 3))), (d 4, .inl (cA, 6, .inl (M 4))), (d 5, .inl (cA, 6, .inl (M 5))), (d 6, .inl (cA, 6, .inl (M 6))), (d 7, .inl (cA, 36, .inl (M 7))), (d 8, .inl (cA, 6, .inl (upd (M 8) h.toNatClampNeg f_2))), (d 9, .inl (cA, 7, .inl (M 9))), (d 10, .inl (cA, 6, .inl (M 10))), (d 11, .inl (cA, 6, .inl (M 11))), (d 12, .inl (cA, 6, .inl (M 12))), (d 13, .inl (cZ, 6, .inl (M 13)))] H := hP
      have hD : va_D A [(a, .inr (4, [.int (M 0 0), .int (M 0 1), .ref (d 1), .ref (d 2), .ref (d 3), .ref (d 4), .ref (d 5), .ref (d 6), .int (M 0 2), .int (M 0 3), .int (M 0 4), .int (M 0 5), .int (M 0 6), .int (M 0 7), .int (M 0 8), .ref (d 7), .int (M 0 9), .int (M 0 10), .int (M 0 11), .int (M 0 12), .ref (d 8), .ref (d 9), .ref (d 10), .ref (d 11), .ref (d 12), .ref (d 13), .int (M 0 13), .int (M 0 14), .int (M 0 15)])), (d 1, .inl (cA, 6, .inl (M 1))), (d 2, .inl (cA, 6, .inl (M 2))), (d 3, .inl (cA, 6, .inl (M 3))), (d 4, .inl (cA, 6, .inl (M 4))), (d 5, .inl (cA, 6, .inl (M 5))), (d 6, .inl (cA, 6, .inl (M 6))), (d 7, .inl (cA, 36, .inl (M 7))), (d 8, .inl (cA, 6, .inl (upd (M 8) h.toNatClampNeg f_2))), (d 9, .inl (cA, 7, .inl (M 9))), (d 10, .inl (cA, 6, .inl (M 10))), (d 11, .inl (cA, 6, .inl (M 11))), (d 12, .inl (cA, 6, .inl (M 12))), (d 13, .inl (cZ, 6, .inl (M 13)))] := hD
      obtain ⟨x_3, ex_3⟩ : ∃ y : Int32, y = h + 1 := ⟨_, rfl⟩
      refine lv_iinc (v := x_3) (lv' := [(9, .int x_3), (0, .ref a), (1, .int v1), (2, .int v2), (3, .int v3), (4, .int i), (5, .int v5), (6, .int v6), (7, .int v7)]) hx hb d_Mod_search_242 hl (k := 0) rfl (by rw [ex_3]; rfl) (by decide) rfl (fun ls hl => ?_)
      refine lv_goto (tgt := 221) hx hb d_Mod_search_245 (by decide) ?_
      have e9 : b_Mod_search_221 i (n + 1) h M = b_Mod_search_221 i n x_3 (tb [M 0, M 1, M 2, M 3, M 4, M 5, M 6, M 7, upd (M 8) h.toNatClampNeg f_2, M 9, M 10, M 11, M 12, M 13]) := by
        subst ef_2 ex_3; rw [b_Mod_search_221]; simp only [if_neg c_1]
      rw [e9] at hk
      exact ih x_3 (tb [M 0, M 1, M 2, M 3, M 4, M 5, M 6, M 7, upd (M 8) h.toNatClampNeg f_2, M 9, M 10, M 11, M 12, M 13]) (by rw [ex_3, toInt_s hh6 (by decide)]; have h8 := vp_in_iff.mp hh6; omega) hk _ _ (hP.sub [0, 1, 2, 3, 4, 5, 6, 7, 8, 9, 10, 11, 12, 13] rfl) (hD.sub [0, 1, 2, 3, 4, 5, 6, 7, 8, 9, 10, 11, 12, 13] (by decide) rfl) hS _ (lv_sub hl [0, 1, 2, 3, 4, 5, 6, 7, 8] rfl)
