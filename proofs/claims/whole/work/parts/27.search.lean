/-! the model: search -/
def SIv (M : Nat → Nat → Int32) (k i : Int32) : Prop := (∃ n : Nat, n ≤ 6 ∧ M 0 1 = nI n) ∧ (∀ j, vp_in (M 1 j) 6) ∧ (-1 ≤ k.toInt ∧ k.toInt < i.toInt) ∧ (∀ j : Nat, (j : Int) < k.toInt → vp_in (M 9 j) 12 ∧ (M 9 j).toInt < 2 * (M 0 1).toInt) ∧ (0 ≤ k.toInt → -1 ≤ (M 9 k.toNatClampNeg).toInt ∧ (M 9 k.toNatClampNeg).toInt < 2 * (M 0 1).toInt)
theorem SIv.of {M M2 : Nat → Nat → Int32} {k i : Int32} (e0 : M2 0 1 = M 0 1) (e1 : M2 1 = M 1) (e9 : M2 9 = M 9) (h : SIv M k i) : SIv M2 k i := by
  unfold SIv at *
  rw [e0, e1, e9]
  exact h
theorem SIv.k6 {M : Nat → Nat → Int32} {k i : Int32} (h : SIv M k i) (hi : i.toInt ≤ 6) (hc : ¬ k < 0) : vp_in k 6 := by
  have h1 := h.2.2.1
  exact in_of hc (by omega)
theorem cl_e {x : Int32} {n : Nat} (h : vp_in x n) : ((x.toNatClampNeg : Nat) : Int) = x.toInt := by
  have h1 := vp_in_iff.mp h
  show ((x.toInt.toNat : Nat) : Int) = x.toInt
  omega
theorem ti_inc {x : Int32} (h1 : -1 ≤ x.toInt) (h2 : x.toInt < 12) : (x + 1).toInt = x.toInt + 1 := by
  rw [Int32.toInt_add]
  have e : (1 : Int32).toInt = 1 := by decide
  rw [e]
  exact Int.bmod_eq_of_le (by omega) (by omega)
theorem ti_dbl {N : Int32} (hN : ∃ n : Nat, n ≤ 6 ∧ N = nI n) : (2 * N).toInt = 2 * N.toInt := by
  obtain ⟨n, hn, rfl⟩ := hN
  exact (by decide : ∀ n, n ≤ 6 → (2 * nI n).toInt = 2 * (nI n).toInt) n hn
theorem ti_N {N : Int32} (hN : ∃ n : Nat, n ≤ 6 ∧ N = nI n) : 0 ≤ N.toInt ∧ N.toInt ≤ 6 := by
  obtain ⟨n, hn, rfl⟩ := hN
  rw [nI_toInt (by omega)]
  omega
theorem S_inc {M M1 : Nat → Nat → Int32} {k i : Int32} (h : SIv M k i) (hk : vp_in k 6) (e : M1 = tb [M 0, M 1, M 2, M 3, M 4, M 5, M 6, M 7, M 8, upd (M 9) k.toNatClampNeg (M 9 k.toNatClampNeg + 1), M 10, M 11, M 12, M 13]) : (M1 9 k.toNatClampNeg = 2 * M1 0 1 → SIv M1 (k + (-1)) i) ∧ (¬ M1 9 k.toNatClampNeg = 2 * M1 0 1 → SIv M1 k i ∧ ∀ j : Nat, (j : Int) < (k + 1).toInt → vp_in (M1 9 j) 12) := by
  obtain ⟨hN, hG, hki, hj, hkk⟩ := h
  have e0 : M1 0 1 = M 0 1 := by rw [e]; rfl
  have e1 : M1 1 = M 1 := by rw [e]; rfl
  have e9 : M1 9 = upd (M 9) k.toNatClampNeg (M 9 k.toNatClampNeg + 1) := by rw [e]; rfl
  have hk8 := vp_in_iff.mp hk
  have hc := cl_e hk
  have hb := hkk hk8.1
  have hn := ti_N hN
  have hinc := ti_inc (x := M 9 k.toNatClampNeg) hb.1 (by omega)
  have eb : M1 9 k.toNatClampNeg = M 9 k.toNatClampNeg + 1 := by rw [e9]; exact pk_us
  have eo : ∀ j : Nat, j ≠ k.toNatClampNeg → M1 9 j = M 9 j := fun j hne => by rw [e9]; exact pk_un hne
  have hd := ti_dbl hN
  constructor
  · intro hp
    have hdec := in6_dec hk
    refine ⟨by rw [e0]; exact hN, by rw [e1]; exact hG, by omega, fun j hjk => ?_, fun h0 => ?_⟩
    · rw [e0, eo j (by omega)]
      exact hj j (by omega)
    · have hkv : vp_in (k + (-1)) 6 := by rw [vp_in_iff]; omega
      have hcv := cl_e hkv
      rw [e0, eo _ (by omega)]
      have h3 := hj (k + (-1)).toNatClampNeg (by omega)
      have h4 := vp_in_iff.mp h3.1
      omega
  · intro hp
    have hlt : (M1 9 k.toNatClampNeg).toInt < 2 * (M 0 1).toInt := by
      rw [eb, hinc]
      rcases Int.lt_or_le ((M 9 k.toNatClampNeg).toInt + 1) (2 * (M 0 1).toInt) with h5 | h5
      · exact h5
      · refine absurd ?_ hp
        rw [e0]
        apply Int32.toInt_inj.mp
        rw [hd, eb, hinc]
        omega
    refine ⟨⟨by rw [e0]; exact hN, by rw [e1]; exact hG, hki, fun j hjk => ?_, fun _ => ?_⟩, fun j hj1 => ?_⟩
    · rw [e0, eo j (by omega)]
      exact hj j hjk
    · rw [e0]
      refine ⟨?_, hlt⟩
      rw [eb, hinc]
      omega
    · rw [toInt_s hk (by decide)] at hj1
      by_cases hjk : j = k.toNatClampNeg
      · rw [hjk, vp_in_iff]
        refine ⟨?_, ?_⟩
        · rw [eb, hinc]; omega
        · have : (M1 9 k.toNatClampNeg).toInt < 12 := by omega
          exact this
      · rw [eo j hjk]
        exact (hj j (by omega)).1
theorem S_desc {M M1 : Nat → Nat → Int32} {k i x f : Int32} (h : SIv M k i) (hk : vp_in k 6) (hi7 : i.toInt ≤ 6) (hw : ∀ j : Nat, (j : Int) < (k + 1).toInt → vp_in (M 9 j) 12) (ex : x = k + 1) (ef : f = k + 1) (hne : ¬ f = i) (e0 : M1 0 1 = M 0 1) (e1 : M1 1 = M 1) (e9 : M1 9 = upd (M 9) x.toNatClampNeg (-1)) : SIv M1 x i := by
  obtain ⟨hN, hG, hki, hj, hkk⟩ := h
  have hk8 := vp_in_iff.mp hk
  have hs := toInt_s hk (by decide)
  have hx7 : vp_in x 7 := by rw [ex]; exact in_s hk (by decide)
  have hxc := cl_e hx7
  have hkc := cl_e hk
  have hn := ti_N hN
  have exi : x.toInt = k.toInt + 1 := by rw [ex, hs]
  have hxi : x.toInt < i.toInt := by
    have : x.toInt ≠ i.toInt := fun q => hne (by rw [ef, ← ex]; exact Int32.toInt_inj.mp q)
    omega
  refine ⟨by rw [e0]; exact hN, by rw [e1]; exact hG, by omega, fun j hjk => ?_, fun _ => ?_⟩
  · rw [e0, e9, pk_un (by omega)]
    refine ⟨hw j (by rw [hs]; omega), ?_⟩
    by_cases hjq : (j : Int) < k.toInt
    · exact (hj j hjq).2
    · have ejk : j = k.toNatClampNeg := by omega
      rw [ejk]
      exact (hkk hk8.1).2
  · rw [e0, e9, pk_us]
    have e1' : (-1 : Int32).toInt = -1 := by decide
    rw [e1']
    refine ⟨by omega, ?_⟩
    omega
theorem S_0 {M M1 : Nat → Nat → Int32} {i : Int32} (hN : ∃ n : Nat, n ≤ 6 ∧ M 0 1 = nI n) (hG : ∀ j, vp_in (M 1 j) 6) (h0 : ¬ i = 0) (hi : 0 ≤ i.toInt) (e0 : M1 0 1 = M 0 1) (e1 : M1 1 = M 1) (e9 : M1 9 = upd (M 9) (0 : Int32).toNatClampNeg (-1)) : SIv M1 0 i := by
  have hz : (0 : Int32).toInt = 0 := by decide
  have hi0 : i.toInt ≠ 0 := fun q => h0 (Int32.toInt_inj.mp (by rw [q, hz]))
  have hn := ti_N hN
  refine ⟨by rw [e0]; exact hN, by rw [e1]; exact hG, by omega, fun j hj => absurd hj (by omega), fun _ => ?_⟩
  rw [e0, e9, pk_us]
  have e1' : (-1 : Int32).toInt = -1 := by decide
  rw [e1']
  omega
theorem ti_add {i c : Int32} (h0 : 0 ≤ i.toInt) (h6 : i.toInt ≤ 6) (hc : vp_in c 2) : (i + c).toInt = i.toInt + c.toInt := by
  have h1 := vp_in_iff.mp hc
  rw [Int32.toInt_add]
  exact Int.bmod_eq_of_le (by omega) (by omega)
theorem in_lti {i h : Int32} (hi : i.toInt ≤ 6) (h0 : 0 ≤ h.toInt) (hc : ¬ i ≤ h) : vp_in h 6 := by
  rw [Int32.le_iff_toInt_le] at hc
  rw [vp_in_iff]
  omega
def b_Mod_search_6 (M : (Nat → Nat → Int32)) (q : Int32) : Nat → Int32 → Int32 → Int32
  | 0, _, _ => (0)
  | n + 1, h, i => if M 0 1 ≤ h then (i) else (let f_2 : Int32 := q >>> (h &&& 31); let f_3 : Int32 := f_2 &&& 1; let f_4 : Int32 := i + f_3; let x_5 : Int32 := h + 1; b_Mod_search_6 M q n x_5 f_4)
set_option maxHeartbeats 4000000 in
set_option maxRecDepth 100000 in
theorem lb_Mod_search_6 {p : Program} {l : Launch} {e : Env} {R : Room} {s : State} {m : MethodId} {args : Array Value} {below : List Frame} {meth : Method} {c : Code} {cells slots : Nat} {Q : State → Prop} {D : va_G} {cA cZ cL : ClassId} {a : Nat} {d : Nat → Nat} {M : (Nat → Nat → Int32)} {q v2 v3 : Int32} (hx : p.tables.exec = Jvm.exec) (hb : c.code = c_Mod_search) (hts : ∀ w ∈ base, w.before args s = true) (hown : s.vm.findClass R_Mod = some m.cls) (hK : va_K D cls (tys3 cA cZ cL) s) {H : Heap} {locs : List Loc} (hN : ∃ n : Nat, n ≤ 6 ∧ M 0 1 = nI n) (hP : va_P D cls [(a, .inr (4, [.int (M 0 0), .int (M 0 1), .ref (d 1), .ref (d 2), .ref (d 3), .ref (d 4), .ref (d 5), .ref (d 6), .int (M 0 2), .int (M 0 3), .int (M 0 4), .int (M 0 5), .int (M 0 6), .int (M 0 7), .int (M 0 8), .ref (d 7), .int (M 0 9), .int (M 0 10), .int (M 0 11), .int (M 0 12), .ref (d 8), .ref (d 9), .ref (d 10), .ref (d 11), .ref (d 12), .ref (d 13), .int (M 0 13), .int (M 0 14), .int (M 0 15)])), (d 1, .inl (cA, 6, .inl (M 1))), (d 2, .inl (cA, 6, .inl (M 2))), (d 3, .inl (cA, 6, .inl (M 3))), (d 4, .inl (cA, 6, .inl (M 4))), (d 5, .inl (cA, 6, .inl (M 5))), (d 6, .inl (cA, 6, .inl (M 6))), (d 7, .inl (cA, 36, .inl (M 7))), (d 8, .inl (cA, 6, .inl (M 8))), (d 9, .inl (cA, 7, .inl (M 9))), (d 10, .inl (cA, 6, .inl (M 10))), (d 11, .inl (cA, 6, .inl (M 11))), (d 12, .inl (cA, 6, .inl (M 12))), (d 13, .inl (cZ, 6, .inl (M 13)))] H) : ∀ (n : Nat) (h : Int32) (i : Int32), ((0 ≤ h.toInt ∧ h.toInt ≤ 6 ∧ 7 < h.toInt + (n : Int)) ∧ (0 ≤ i.toInt ∧ i.toInt ≤ h.toInt)) → (∀ (y1 : Int32) (ls : Array Slot), y1 = (b_Mod_search_6 M q n h i) → (0 ≤ y1.toInt ∧ y1.toInt ≤ 6) → lv_has ls 10 [(4, .int y1), (0, .ref a), (1, .int q), (2, .int v2), (3, .int v3)] → W p l e R s m args below meth c H locs cells slots Q (F0 m 32 ls [])) → ∀ ls : Array Slot, lv_has ls 10 [(5, .int h), (4, .int i), (0, .ref a), (1, .int q), (2, .int v2), (3, .int v3)] → W p l e R s m args below meth c H locs cells slots Q (F0 m 6 ls []) := by
  intro n
  induction n with
  | zero =>
    intro h i hi
    exact absurd hi (by rintro ⟨h, -⟩; omega)
  | succ n ih =>
    intro h i hi hk ls hl
    refine lv_iload hx hb d_Mod_search_6 (lv_at hl 0 rfl) ?_
    refine lv_aload_n hx hb d_Mod_search_8 rfl (lv_at hl 2 rfl) ?_
    refine va_get (D := D) (ci := 4) (v := .int (M 0 1)) (C := R_Mod) (T := T_Mod) (N := 29) hx hb hts i_Mod hown hK hP 0 rfl rfl 1 (by decide) (hts _ mb_524) (fun _ h9 => h9) rfl d_Mod_search_9 ?_
    refine lv_icmp_ge (tgt := 32) hx hb d_Mod_search_12 (by decide) (fun c_1 => ?_) (fun c_1 => ?_)
    · skip
      have e9 : b_Mod_search_6 M q (n + 1) h i = i := by
        rw [b_Mod_search_6]; simp only [if_pos c_1]
      exact hk _ _ (by rw [e9]) ⟨hi.2.1, by have h5 := hi.1; have h6 := hi.2; omega⟩ (lv_sub hl [1, 2, 3, 4, 5] rfl)
    · skip
      have hh6 : vp_in h 6 := in_lt hN hi.1.1 c_1
      refine lv_iload hx hb d_Mod_search_15 (lv_at hl 1 rfl) ?_
      refine lv_iload_n hx hb d_Mod_search_17 rfl (lv_at hl 3 rfl) ?_
      refine lv_iload hx hb d_Mod_search_18 (lv_at hl 0 rfl) ?_
      refine lv_ishr hx hb d_Mod_search_20 ?_
      refine lv_topi (fun f_2 ef_2 => ?_)
      refine lv_iconst (v := 1) hx hb d_Mod_search_21 (by decide) ?_
      refine lv_iand hx hb d_Mod_search_22 ?_
      refine lv_topi (fun f_3 ef_3 => ?_)
      refine lv_iadd hx hb d_Mod_search_23 ?_
      refine lv_topi (fun f_4 ef_4 => ?_)
      refine lv_istore (lv' := [(4, .int f_4), (5, .int h), (0, .ref a), (1, .int q), (2, .int v2), (3, .int v3)]) hx hb d_Mod_search_24 hl (by decide) rfl (fun ls hl => ?_)
      obtain ⟨x_5, ex_5⟩ : ∃ y : Int32, y = h + 1 := ⟨_, rfl⟩
      refine lv_iinc (v := x_5) (lv' := [(5, .int x_5), (4, .int f_4), (0, .ref a), (1, .int q), (2, .int v2), (3, .int v3)]) hx hb d_Mod_search_26 hl (k := 1) rfl (by rw [ex_5]; rfl) (by decide) rfl (fun ls hl => ?_)
      refine lv_goto (tgt := 6) hx hb d_Mod_search_29 (by decide) ?_
      have e9 : b_Mod_search_6 M q (n + 1) h i = b_Mod_search_6 M q n x_5 f_4 := by
        subst ef_2 ef_3 ef_4 ex_5; rw [b_Mod_search_6]; simp only [if_neg c_1]
      rw [e9] at hk
      exact ih x_5 f_4 ⟨by rw [ex_5, toInt_s hh6 (by decide)]; have h8 := vp_in_iff.mp hh6; omega, by have h5 := hi.1; have h6 := hi.2; have hb2 : vp_in f_3 2 := (by rw [ef_3]; exact pk_andIn _ 1 (by decide) (by decide)); have h7 := vp_in_iff.mp hb2; rw [ex_5, ef_4, toInt_s hh6 (by decide), ti_add h6.1 (by omega) hb2]; omega⟩ hk _ (lv_sub hl [0, 1, 2, 3, 4, 5] rfl)
def b_Mod_search_221 (i : Int32) : Nat → Int32 → (Nat → Nat → Int32) → (Nat → Nat → Int32)
  | 0, _, M => M
  | n + 1, h, M => if i ≤ h then (M) else (let f_2 : Int32 := M 9 h.toNatClampNeg; let x_3 : Int32 := h + 1; b_Mod_search_221 i n x_3 (tb [M 0, M 1, M 2, M 3, M 4, M 5, M 6, M 7, upd (M 8) h.toNatClampNeg f_2, M 9, M 10, M 11, M 12, M 13]))
set_option maxHeartbeats 4000000 in
set_option maxRecDepth 100000 in
theorem lb_Mod_search_221 {p : Program} {l : Launch} {e : Env} {R : Room} {s : State} {m : MethodId} {args : Array Value} {below : List Frame} {meth : Method} {c : Code} {cells slots : Nat} {Q : State → Prop} {D : va_G} {cA cZ cL : ClassId} {a : Nat} {d : Nat → Nat} {A : Nat → Prop} {H0 : Heap} {v1 v2 v3 i v5 v6 v7 : Int32} (hx : p.tables.exec = Jvm.exec) (hb : c.code = c_Mod_search) (hts : ∀ w ∈ base, w.before args s = true) (hown : s.vm.findClass R_Mod = some m.cls) (hK : va_K D cls (tys3 cA cZ cL) s) (hi7 : i.toInt ≤ 6) : ∀ (n : Nat) (h : Int32) (M : (Nat → Nat → Int32)), (0 ≤ h.toInt ∧ h.toInt ≤ 6 ∧ 7 < h.toInt + (n : Int)) → (∀ (ls : Array Slot), ((b_Mod_search_221 i n h M) 0 = M 0 ∧ (b_Mod_search_221 i n h M) 1 = M 1 ∧ (b_Mod_search_221 i n h M) 9 = M 9) → ∀ (H : Heap) (locs : List Loc), va_P D cls (wMod cA cZ a d (b_Mod_search_221 i n h M)) H → va_D A (wMod cA cZ a d (b_Mod_search_221 i n h M)) → va_S A H0 H locs → lv_has ls 10 [(0, .ref a), (1, .int v1), (2, .int v2), (3, .int v3), (4, .int i), (5, .int v5), (6, .int v6), (7, .int v7)] → W p l e R s m args below meth c H locs cells slots Q (F0 m 248 ls [])) → ∀ (H : Heap) (locs : List Loc), va_P D cls [(a, .inr (4, [.int (M 0 0), .int (M 0 1), .ref (d 1), .ref (d 2), .ref (d 3), .ref (d 4), .ref (d 5), .ref (d 6), .int (M 0 2), .int (M 0 3), .int (M 0 4), .int (M 0 5), .int (M 0 6), .int (M 0 7), .int (M 0 8), .ref (d 7), .int (M 0 9), .int (M 0 10), .int (M 0 11), .int (M 0 12), .ref (d 8), .ref (d 9), .ref (d 10), .ref (d 11), .ref (d 12), .ref (d 13), .int (M 0 13), .int (M 0 14), .int (M 0 15)])), (d 1, .inl (cA, 6, .inl (M 1))), (d 2, .inl (cA, 6, .inl (M 2))), (d 3, .inl (cA, 6, .inl (M 3))), (d 4, .inl (cA, 6, .inl (M 4))), (d 5, .inl (cA, 6, .inl (M 5))), (d 6, .inl (cA, 6, .inl (M 6))), (d 7, .inl (cA, 36, .inl (M 7))), (d 8, .inl (cA, 6, .inl (M 8))), (d 9, .inl (cA, 7, .inl (M 9))), (d 10, .inl (cA, 6, .inl (M 10))), (d 11, .inl (cA, 6, .inl (M 11))), (d 12, .inl (cA, 6, .inl (M 12))), (d 13, .inl (cZ, 6, .inl (M 13)))] H → va_D A [(a, .inr (4, [.int (M 0 0), .int (M 0 1), .ref (d 1), .ref (d 2), .ref (d 3), .ref (d 4), .ref (d 5), .ref (d 6), .int (M 0 2), .int (M 0 3), .int (M 0 4), .int (M 0 5), .int (M 0 6), .int (M 0 7), .int (M 0 8), .ref (d 7), .int (M 0 9), .int (M 0 10), .int (M 0 11), .int (M 0 12), .ref (d 8), .ref (d 9), .ref (d 10), .ref (d 11), .ref (d 12), .ref (d 13), .int (M 0 13), .int (M 0 14), .int (M 0 15)])), (d 1, .inl (cA, 6, .inl (M 1))), (d 2, .inl (cA, 6, .inl (M 2))), (d 3, .inl (cA, 6, .inl (M 3))), (d 4, .inl (cA, 6, .inl (M 4))), (d 5, .inl (cA, 6, .inl (M 5))), (d 6, .inl (cA, 6, .inl (M 6))), (d 7, .inl (cA, 36, .inl (M 7))), (d 8, .inl (cA, 6, .inl (M 8))), (d 9, .inl (cA, 7, .inl (M 9))), (d 10, .inl (cA, 6, .inl (M 10))), (d 11, .inl (cA, 6, .inl (M 11))), (d 12, .inl (cA, 6, .inl (M 12))), (d 13, .inl (cZ, 6, .inl (M 13)))] → va_S A H0 H locs → ∀ ls : Array Slot, lv_has ls 10 [(9, .int h), (0, .ref a), (1, .int v1), (2, .int v2), (3, .int v3), (4, .int i), (5, .int v5), (6, .int v6), (7, .int v7)] → W p l e R s m args below meth c H locs cells slots Q (F0 m 221 ls []) := by
  intro n
  induction n with
  | zero =>
    intro h M hi
    exact absurd hi (by omega)
  | succ n ih =>
    intro h M hi hk H locs hP hD hS ls hl
    refine lv_iload hx hb d_Mod_search_221 (lv_at hl 0 rfl) ?_
    refine lv_iload hx hb d_Mod_search_223 (lv_at hl 5 rfl) ?_
    refine lv_icmp_ge (tgt := 248) hx hb d_Mod_search_225 (by decide) (fun c_1 => ?_) (fun c_1 => ?_)
    · skip
      have e9 : b_Mod_search_221 i (n + 1) h M = M := by
        rw [b_Mod_search_221]; simp only [if_pos c_1]
      exact hk _  (by rw [e9]; exact ⟨rfl, rfl, rfl⟩) _ _ (by rw [e9]; exact hP.sub [0, 1, 2, 3, 4, 5, 6, 7, 8, 9, 10, 11, 12, 13] rfl) (by rw [e9]; exact hD.sub [0, 1, 2, 3, 4, 5, 6, 7, 8, 9, 10, 11, 12, 13] (by decide) rfl) hS (lv_sub hl [1, 2, 3, 4, 5, 6, 7, 8] rfl)
    · skip
      have hh6 : vp_in h 6 := in_lti hi7 hi.1 c_1
      refine lv_aload_n hx hb d_Mod_search_228 rfl (lv_at hl 1 rfl) ?_
      refine va_get (D := D) (ci := 4) (v := .ref (d 8)) (C := R_Mod) (T := T_Mod) (N := 29) hx hb hts i_Mod hown hK hP 0 rfl rfl 20 (by decide) (hts _ mb_543) (fun _ h9 => h9) rfl d_Mod_search_229 ?_
      refine lv_iload hx hb d_Mod_search_232 (lv_at hl 0 rfl) ?_
      refine lv_aload_n hx hb d_Mod_search_234 rfl (lv_at hl 1 rfl) ?_
      refine va_get (D := D) (ci := 4) (v := .ref (d 9)) (C := R_Mod) (T := T_Mod) (N := 29) hx hb hts i_Mod hown hK hP 0 rfl rfl 21 (by decide) (hts _ mb_544) (fun _ h9 => h9) rfl d_Mod_search_235 ?_
      refine lv_iload hx hb d_Mod_search_238 (lv_at hl 0 rfl) ?_
      refine va_iald hx hb hK hP 9 0 rfl rfl (in_le hh6 (by decide)) d_Mod_search_240 ?_
      refine lv_topi (fun f_2 ef_2 => ?_)
      refine va_iast hx hb hK hP hD hS 8 0 rfl rfl hh6 d_Mod_search_241 (fun H locs hP hD hS => ?_)
      have hP : va_P D cls [(a, .inr (4, [.int (M 0 0), .int (M 0 1), .ref (d 1), .ref (d 2), .ref (d 3), .ref (d 4), .ref (d 5), .ref (d 6), .int (M 0 2), .int (M 0 3), .int (M 0 4), .int (M 0 5), .int (M 0 6), .int (M 0 7), .int (M 0 8), .ref (d 7), .int (M 0 9), .int (M 0 10), .int (M 0 11), .int (M 0 12), .ref (d 8), .ref (d 9), .ref (d 10), .ref (d 11), .ref (d 12), .ref (d 13), .int (M 0 13), .int (M 0 14), .int (M 0 15)])), (d 1, .inl (cA, 6, .inl (M 1))), (d 2, .inl (cA, 6, .inl (M 2))), (d 3, .inl (cA, 6, .inl (M 3))), (d 4, .inl (cA, 6, .inl (M 4))), (d 5, .inl (cA, 6, .inl (M 5))), (d 6, .inl (cA, 6, .inl (M 6))), (d 7, .inl (cA, 36, .inl (M 7))), (d 8, .inl (cA, 6, .inl (upd (M 8) h.toNatClampNeg f_2))), (d 9, .inl (cA, 7, .inl (M 9))), (d 10, .inl (cA, 6, .inl (M 10))), (d 11, .inl (cA, 6, .inl (M 11))), (d 12, .inl (cA, 6, .inl (M 12))), (d 13, .inl (cZ, 6, .inl (M 13)))] H := hP
      have hD : va_D A [(a, .inr (4, [.int (M 0 0), .int (M 0 1), .ref (d 1), .ref (d 2), .ref (d 3), .ref (d 4), .ref (d 5), .ref (d 6), .int (M 0 2), .int (M 0 3), .int (M 0 4), .int (M 0 5), .int (M 0 6), .int (M 0 7), .int (M 0 8), .ref (d 7), .int (M 0 9), .int (M 0 10), .int (M 0 11), .int (M 0 12), .ref (d 8), .ref (d 9), .ref (d 10), .ref (d 11), .ref (d 12), .ref (d 13), .int (M 0 13), .int (M 0 14), .int (M 0 15)])), (d 1, .inl (cA, 6, .inl (M 1))), (d 2, .inl (cA, 6, .inl (M 2))), (d 3, .inl (cA, 6, .inl (M 3))), (d 4, .inl (cA, 6, .inl (M 4))), (d 5, .inl (cA, 6, .inl (M 5))), (d 6, .inl (cA, 6, .inl (M 6))), (d 7, .inl (cA, 36, .inl (M 7))), (d 8, .inl (cA, 6, .inl (upd (M 8) h.toNatClampNeg f_2))), (d 9, .inl (cA, 7, .inl (M 9))), (d 10, .inl (cA, 6, .inl (M 10))), (d 11, .inl (cA, 6, .inl (M 11))), (d 12, .inl (cA, 6, .inl (M 12))), (d 13, .inl (cZ, 6, .inl (M 13)))] := hD
      obtain ⟨x_3, ex_3⟩ : ∃ y : Int32, y = h + 1 := ⟨_, rfl⟩
      refine lv_iinc (v := x_3) (lv' := [(9, .int x_3), (0, .ref a), (1, .int v1), (2, .int v2), (3, .int v3), (4, .int i), (5, .int v5), (6, .int v6), (7, .int v7)]) hx hb d_Mod_search_242 hl (k := 0) rfl (by rw [ex_3]; rfl) (by decide) rfl (fun ls hl => ?_)
      refine lv_goto (tgt := 221) hx hb d_Mod_search_245 (by decide) ?_
      have e9 : b_Mod_search_221 i (n + 1) h M = b_Mod_search_221 i n x_3 (tb [M 0, M 1, M 2, M 3, M 4, M 5, M 6, M 7, upd (M 8) h.toNatClampNeg f_2, M 9, M 10, M 11, M 12, M 13]) := by
        subst ef_2 ex_3; rw [b_Mod_search_221]; simp only [if_neg c_1]
      rw [e9] at hk
      exact ih x_3 (tb [M 0, M 1, M 2, M 3, M 4, M 5, M 6, M 7, upd (M 8) h.toNatClampNeg f_2, M 9, M 10, M 11, M 12, M 13]) (by rw [ex_3, toInt_s hh6 (by decide)]; have h8 := vp_in_iff.mp hh6; omega) hk _ _ (hP.sub [0, 1, 2, 3, 4, 5, 6, 7, 8, 9, 10, 11, 12, 13] rfl) (hD.sub [0, 1, 2, 3, 4, 5, 6, 7, 8, 9, 10, 11, 12, 13] (by decide) rfl) hS _ (lv_sub hl [0, 1, 2, 3, 4, 5, 6, 7, 8] rfl)
def q_Mod_search (q v g i : Int32) : Nat → Int32 → Int32 → Int32 → (Nat → Nat → Int32) → Option (Int32 × (Nat → Nat → Int32))
  | 0, _, _, _, _ => none
  | n + 1, k, h, j, M => if k < 0 then (some (h, M)) else (let f_2 : Int32 := M 9 k.toNatClampNeg; let f_3 : Int32 := f_2 + 1; let T_4 : Nat → Nat → Int32 := (tb [M 0, M 1, M 2, M 3, M 4, M 5, M 6, M 7, M 8, upd (M 9) k.toNatClampNeg f_3, M 10, M 11, M 12, M 13]); let f_5 : Int32 := T_4 9 k.toNatClampNeg; let f_6 : Int32 := 2 * (T_4 0 1); if f_5 = f_6 then (let x_54 : Int32 := k + (-1); q_Mod_search q v g i n x_54 h j T_4) else (let f_8 : Int32 := T_4 9 k.toNatClampNeg; let f_9 : Int32 := f_8 / 2; let f_10 : Int32 := q >>> (f_9 &&& 31); let f_11 : Int32 := f_10 &&& 1; if f_11 = 1 then (let f_13 : Int32 := r_Mod_isUsed T_4 k; if f_13 = 0 then (let f_15 : Int32 := k + 1; let f_16 : Int32 := (r_Mod_workOut T_4 f_15).1; let T_17 : Nat → Nat → Int32 := (r_Mod_workOut T_4 f_15).2; if f_16 = 0 then (q_Mod_search q v g i n k h j T_17) else (if g = 0 then (if T_17 0 11 = v then (some (h, (tb [(tv [T_17 0 0, T_17 0 1, T_17 0 2, T_17 0 3, T_17 0 4, T_17 0 5, T_17 0 6, T_17 0 7, T_17 0 8, T_17 0 9, 0, T_17 0 11, T_17 0 12, T_17 0 13, T_17 0 14, T_17 0 15]), T_17 1, T_17 2, T_17 3, T_17 4, T_17 5, T_17 6, T_17 7, T_17 8, T_17 9, T_17 10, T_17 11, T_17 12, T_17 13]))) else (let f_38 : Int32 := (1); let f_39 : Int32 := (T_17 0 11) + f_38; let T_40 : Nat → Nat → Int32 := (tb [(tv [T_17 0 0, T_17 0 1, T_17 0 2, T_17 0 3, T_17 0 4, T_17 0 5, T_17 0 6, T_17 0 7, T_17 0 8, T_17 0 9, T_17 0 10, f_39, T_17 0 12, T_17 0 13, T_17 0 14, T_17 0 15]), T_17 1, T_17 2, T_17 3, T_17 4, T_17 5, T_17 6, T_17 7, T_17 8, T_17 9, T_17 10, T_17 11, T_17 12, T_17 13]); let f_44 : Int32 := (if h = 0 then (0) else (let f_42 : Int32 := r_Mod_costNow T_40; if f_42 < j then (0) else (1))); if f_44 = 0 then (let f_47 : Int32 := k + 1; if f_47 = i then (let f_51 : Int32 := r_Mod_costNow T_40; q_Mod_search q v g i n k 1 f_51 (b_Mod_search_221 i 8 0 T_40)) else (let x_50 : Int32 := k + 1; q_Mod_search q v g i n x_50 h j (tb [T_40 0, T_40 1, T_40 2, T_40 3, T_40 4, T_40 5, T_40 6, T_40 7, T_40 8, upd (T_40 9) x_50.toNatClampNeg (-1), T_40 10, T_40 11, T_40 12, T_40 13]))) else (q_Mod_search q v g i n k h j T_40))) else (let f_21 : Int32 := (0); let f_22 : Int32 := (T_17 0 11) + f_21; let T_23 : Nat → Nat → Int32 := (tb [(tv [T_17 0 0, T_17 0 1, T_17 0 2, T_17 0 3, T_17 0 4, T_17 0 5, T_17 0 6, T_17 0 7, T_17 0 8, T_17 0 9, T_17 0 10, f_22, T_17 0 12, T_17 0 13, T_17 0 14, T_17 0 15]), T_17 1, T_17 2, T_17 3, T_17 4, T_17 5, T_17 6, T_17 7, T_17 8, T_17 9, T_17 10, T_17 11, T_17 12, T_17 13]); let f_27 : Int32 := (if h = 0 then (0) else (let f_25 : Int32 := r_Mod_costNow T_23; if f_25 < j then (0) else (1))); if f_27 = 0 then (let f_30 : Int32 := k + 1; if f_30 = i then (let f_34 : Int32 := r_Mod_costNow T_23; some (1, T_23)) else (let x_33 : Int32 := k + 1; q_Mod_search q v g i n x_33 h j (tb [T_23 0, T_23 1, T_23 2, T_23 3, T_23 4, T_23 5, T_23 6, T_23 7, T_23 8, upd (T_23 9) x_33.toNatClampNeg (-1), T_23 10, T_23 11, T_23 12, T_23 13]))) else (q_Mod_search q v g i n k h j T_23)))) else (q_Mod_search q v g i n k h j T_4)) else (q_Mod_search q v g i n k h j T_4)))
set_option maxHeartbeats 4000000 in
set_option maxRecDepth 100000 in
theorem lp_Mod_search {l : Launch} {D : va_G} {cA cZ cL : ClassId} (a : Nat) (d : Nat → Nat) (q v g i : Int32) (hi7 : i.toInt ≤ 6) {p : Program} {e : Env} {s : State} {m : MethodId} {args : Array Value} {below : List Frame} {meth : Method} {c : Code} {A : Nat → Prop} (hx : p.tables.exec = Jvm.exec) (hb : c.code = c_Mod_search) (hr : meth.sig.returnType = (some .boolean)) (hml : c.maxLocals = 10) (hts : ∀ w ∈ base, w.before args s = true) (hown : s.vm.findClass R_Mod = some m.cls) (hlocks : meth.locks = false) (hK : va_K D cls (tys3 cA cZ cL) s) (hZ : hz s) (hA : ∀ q : Nat, s.heap.size ≤ q → A q) :
    ∀ (n : Nat) (k : Int32) (h : Int32) (j : Int32) (M : (Nat → Nat → Int32)), (SIv M k i ∧ (h = 0 ∨ h = 1)) → ∀ res, q_Mod_search q v g i n k h j M = some res → ∀ (H : Heap) (locs : List Loc), va_P D cls [(a, .inr (4, [.int (M 0 0), .int (M 0 1), .ref (d 1), .ref (d 2), .ref (d 3), .ref (d 4), .ref (d 5), .ref (d 6), .int (M 0 2), .int (M 0 3), .int (M 0 4), .int (M 0 5), .int (M 0 6), .int (M 0 7), .int (M 0 8), .ref (d 7), .int (M 0 9), .int (M 0 10), .int (M 0 11), .int (M 0 12), .ref (d 8), .ref (d 9), .ref (d 10), .ref (d 11), .ref (d 12), .ref (d 13), .int (M 0 13), .int (M 0 14), .int (M 0 15)])), (d 1, .inl (cA, 6, .inl (M 1))), (d 2, .inl (cA, 6, .inl (M 2))), (d 3, .inl (cA, 6, .inl (M 3))), (d 4, .inl (cA, 6, .inl (M 4))), (d 5, .inl (cA, 6, .inl (M 5))), (d 6, .inl (cA, 6, .inl (M 6))), (d 7, .inl (cA, 36, .inl (M 7))), (d 8, .inl (cA, 6, .inl (M 8))), (d 9, .inl (cA, 7, .inl (M 9))), (d 10, .inl (cA, 6, .inl (M 10))), (d 11, .inl (cA, 6, .inl (M 11))), (d 12, .inl (cA, 6, .inl (M 12))), (d 13, .inl (cZ, 6, .inl (M 13)))] H → va_D A [(a, .inr (4, [.int (M 0 0), .int (M 0 1), .ref (d 1), .ref (d 2), .ref (d 3), .ref (d 4), .ref (d 5), .ref (d 6), .int (M 0 2), .int (M 0 3), .int (M 0 4), .int (M 0 5), .int (M 0 6), .int (M 0 7), .int (M 0 8), .ref (d 7), .int (M 0 9), .int (M 0 10), .int (M 0 11), .int (M 0 12), .ref (d 8), .ref (d 9), .ref (d 10), .ref (d 11), .ref (d 12), .ref (d 13), .int (M 0 13), .int (M 0 14), .int (M 0 15)])), (d 1, .inl (cA, 6, .inl (M 1))), (d 2, .inl (cA, 6, .inl (M 2))), (d 3, .inl (cA, 6, .inl (M 3))), (d 4, .inl (cA, 6, .inl (M 4))), (d 5, .inl (cA, 6, .inl (M 5))), (d 6, .inl (cA, 6, .inl (M 6))), (d 7, .inl (cA, 36, .inl (M 7))), (d 8, .inl (cA, 6, .inl (M 8))), (d 9, .inl (cA, 7, .inl (M 9))), (d 10, .inl (cA, 6, .inl (M 10))), (d 11, .inl (cA, 6, .inl (M 11))), (d 12, .inl (cA, 6, .inl (M 12))), (d 13, .inl (cZ, 6, .inl (M 13)))] → va_S A s.heap H locs → ∀ ls : Array Slot, lv_has ls 10 [(7, .int k), (5, .int h), (6, .int j), (4, .int i), (0, .ref a), (1, .int q), (2, .int v), (3, .int g)] → W p l e ({ frames := 2, cells := 0, slots := 0, locals := 54 } : Room) s m args below meth c H locs 0 0 (MQ below (va_Qi (fun r (_ : Unit) => r = res.1) (fun _ => hw_At D cls (tys3 cA cZ cL) A (wMod cA cZ a d res.2)) A) args s 0 0 A) (F0 m 55 ls []) := by
  intro n
  induction n with
  | zero =>
    intro k h j M hi
    exact fun res hres => absurd hres (by intro h; cases h)
  | succ n ih =>
    intro k h j M hi res hres H locs hP hD hS ls hl
    refine lv_iload hx hb d_Mod_search_55 (lv_at hl 0 rfl) ?_
    refine lv_if_lt (tgt := 270) hx hb d_Mod_search_57 (by decide) (fun c_1 => ?_) (fun c_1 => ?_)
    · skip
      refine lv_iload hx hb d_Mod_search_270 (lv_at hl 1 rfl) ?_
      have e9 : q_Mod_search q v g i (n + 1) k h j M = some (h, M) := by
        rw [q_Mod_search]; simp only [if_pos c_1]
      have e8 := Option.some.inj (hres.symm.trans e9)
      exact W.zret (v := h) hx hb hr (bool_nar (by exact hi.2)) (fun t ht hW => ⟨⟨_, (), rfl, (by rw [e8]), (by rw [e8, ht]; try dsimp only; exact hP.sub [0, 1, 2, 3, 4, 5, 6, 7, 8, 9, 10, 11, 12, 13] rfl), (by rw [e8]; try dsimp only; exact hD.sub [0, 1, 2, 3, 4, 5, 6, 7, 8, 9, 10, 11, 12, 13] (by decide) rfl)⟩, hS.F ht⟩) hS.2.2 d_Mod_search_272
    · skip
      have hk6 : vp_in k 6 := SIv.k6 hi.1 hi7 c_1
      refine lv_aload_n hx hb d_Mod_search_60 rfl (lv_at hl 4 rfl) ?_
      refine va_get (D := D) (ci := 4) (v := .ref (d 9)) (C := R_Mod) (T := T_Mod) (N := 29) hx hb hts i_Mod hown hK hP 0 rfl rfl 21 (by decide) (hts _ mb_544) (fun _ h9 => h9) rfl d_Mod_search_61 ?_
      refine lv_iload hx hb d_Mod_search_64 (lv_at hl 0 rfl) ?_
      refine lv_dup2_11 hx hb d_Mod_search_66 rfl rfl ?_
      refine va_iald hx hb hK hP 9 0 rfl rfl (in_le hk6 (by decide)) d_Mod_search_67 ?_
      refine lv_topi (fun f_2 ef_2 => ?_)
      refine lv_iconst (v := 1) hx hb d_Mod_search_68 (by decide) ?_
      refine lv_iadd hx hb d_Mod_search_69 ?_
      refine lv_topi (fun f_3 ef_3 => ?_)
      refine va_iast hx hb hK hP hD hS 9 0 rfl rfl (in_le hk6 (by decide)) d_Mod_search_70 (fun H locs hP hD hS => ?_)
      have hP : va_P D cls [(a, .inr (4, [.int (M 0 0), .int (M 0 1), .ref (d 1), .ref (d 2), .ref (d 3), .ref (d 4), .ref (d 5), .ref (d 6), .int (M 0 2), .int (M 0 3), .int (M 0 4), .int (M 0 5), .int (M 0 6), .int (M 0 7), .int (M 0 8), .ref (d 7), .int (M 0 9), .int (M 0 10), .int (M 0 11), .int (M 0 12), .ref (d 8), .ref (d 9), .ref (d 10), .ref (d 11), .ref (d 12), .ref (d 13), .int (M 0 13), .int (M 0 14), .int (M 0 15)])), (d 1, .inl (cA, 6, .inl (M 1))), (d 2, .inl (cA, 6, .inl (M 2))), (d 3, .inl (cA, 6, .inl (M 3))), (d 4, .inl (cA, 6, .inl (M 4))), (d 5, .inl (cA, 6, .inl (M 5))), (d 6, .inl (cA, 6, .inl (M 6))), (d 7, .inl (cA, 36, .inl (M 7))), (d 8, .inl (cA, 6, .inl (M 8))), (d 9, .inl (cA, 7, .inl (upd (M 9) k.toNatClampNeg f_3))), (d 10, .inl (cA, 6, .inl (M 10))), (d 11, .inl (cA, 6, .inl (M 11))), (d 12, .inl (cA, 6, .inl (M 12))), (d 13, .inl (cZ, 6, .inl (M 13)))] H := hP
      have hD : va_D A [(a, .inr (4, [.int (M 0 0), .int (M 0 1), .ref (d 1), .ref (d 2), .ref (d 3), .ref (d 4), .ref (d 5), .ref (d 6), .int (M 0 2), .int (M 0 3), .int (M 0 4), .int (M 0 5), .int (M 0 6), .int (M 0 7), .int (M 0 8), .ref (d 7), .int (M 0 9), .int (M 0 10), .int (M 0 11), .int (M 0 12), .ref (d 8), .ref (d 9), .ref (d 10), .ref (d 11), .ref (d 12), .ref (d 13), .int (M 0 13), .int (M 0 14), .int (M 0 15)])), (d 1, .inl (cA, 6, .inl (M 1))), (d 2, .inl (cA, 6, .inl (M 2))), (d 3, .inl (cA, 6, .inl (M 3))), (d 4, .inl (cA, 6, .inl (M 4))), (d 5, .inl (cA, 6, .inl (M 5))), (d 6, .inl (cA, 6, .inl (M 6))), (d 7, .inl (cA, 36, .inl (M 7))), (d 8, .inl (cA, 6, .inl (M 8))), (d 9, .inl (cA, 7, .inl (upd (M 9) k.toNatClampNeg f_3))), (d 10, .inl (cA, 6, .inl (M 10))), (d 11, .inl (cA, 6, .inl (M 11))), (d 12, .inl (cA, 6, .inl (M 12))), (d 13, .inl (cZ, 6, .inl (M 13)))] := hD
      obtain ⟨T_4, eT_4⟩ : ∃ T : Nat → Nat → Int32, T = (tb [M 0, M 1, M 2, M 3, M 4, M 5, M 6, M 7, M 8, upd (M 9) k.toNatClampNeg f_3, M 10, M 11, M 12, M 13]) := ⟨_, rfl⟩
      have hP : va_P D cls [(a, .inr (4, [.int (T_4 0 0), .int (T_4 0 1), .ref (d 1), .ref (d 2), .ref (d 3), .ref (d 4), .ref (d 5), .ref (d 6), .int (T_4 0 2), .int (T_4 0 3), .int (T_4 0 4), .int (T_4 0 5), .int (T_4 0 6), .int (T_4 0 7), .int (T_4 0 8), .ref (d 7), .int (T_4 0 9), .int (T_4 0 10), .int (T_4 0 11), .int (T_4 0 12), .ref (d 8), .ref (d 9), .ref (d 10), .ref (d 11), .ref (d 12), .ref (d 13), .int (T_4 0 13), .int (T_4 0 14), .int (T_4 0 15)])), (d 1, .inl (cA, 6, .inl (T_4 1))), (d 2, .inl (cA, 6, .inl (T_4 2))), (d 3, .inl (cA, 6, .inl (T_4 3))), (d 4, .inl (cA, 6, .inl (T_4 4))), (d 5, .inl (cA, 6, .inl (T_4 5))), (d 6, .inl (cA, 6, .inl (T_4 6))), (d 7, .inl (cA, 36, .inl (T_4 7))), (d 8, .inl (cA, 6, .inl (T_4 8))), (d 9, .inl (cA, 7, .inl (T_4 9))), (d 10, .inl (cA, 6, .inl (T_4 10))), (d 11, .inl (cA, 6, .inl (T_4 11))), (d 12, .inl (cA, 6, .inl (T_4 12))), (d 13, .inl (cZ, 6, .inl (T_4 13)))] H := by rw [eT_4]; exact hP
      have hD : va_D A [(a, .inr (4, [.int (T_4 0 0), .int (T_4 0 1), .ref (d 1), .ref (d 2), .ref (d 3), .ref (d 4), .ref (d 5), .ref (d 6), .int (T_4 0 2), .int (T_4 0 3), .int (T_4 0 4), .int (T_4 0 5), .int (T_4 0 6), .int (T_4 0 7), .int (T_4 0 8), .ref (d 7), .int (T_4 0 9), .int (T_4 0 10), .int (T_4 0 11), .int (T_4 0 12), .ref (d 8), .ref (d 9), .ref (d 10), .ref (d 11), .ref (d 12), .ref (d 13), .int (T_4 0 13), .int (T_4 0 14), .int (T_4 0 15)])), (d 1, .inl (cA, 6, .inl (T_4 1))), (d 2, .inl (cA, 6, .inl (T_4 2))), (d 3, .inl (cA, 6, .inl (T_4 3))), (d 4, .inl (cA, 6, .inl (T_4 4))), (d 5, .inl (cA, 6, .inl (T_4 5))), (d 6, .inl (cA, 6, .inl (T_4 6))), (d 7, .inl (cA, 36, .inl (T_4 7))), (d 8, .inl (cA, 6, .inl (T_4 8))), (d 9, .inl (cA, 7, .inl (T_4 9))), (d 10, .inl (cA, 6, .inl (T_4 10))), (d 11, .inl (cA, 6, .inl (T_4 11))), (d 12, .inl (cA, 6, .inl (T_4 12))), (d 13, .inl (cZ, 6, .inl (T_4 13)))] := by rw [eT_4]; exact hD
      have sI := S_inc hi.1 hk6 (M1 := T_4) (by rw [eT_4, ef_3, ef_2])
      refine lv_aload_n hx hb d_Mod_search_71 rfl (lv_at hl 4 rfl) ?_
      refine va_get (D := D) (ci := 4) (v := .ref (d 9)) (C := R_Mod) (T := T_Mod) (N := 29) hx hb hts i_Mod hown hK hP 0 rfl rfl 21 (by decide) (hts _ mb_544) (fun _ h9 => h9) rfl d_Mod_search_72 ?_
      refine lv_iload hx hb d_Mod_search_75 (lv_at hl 0 rfl) ?_
      refine va_iald hx hb hK hP 9 0 rfl rfl (in_le hk6 (by decide)) d_Mod_search_77 ?_
      refine lv_topi (fun f_5 ef_5 => ?_)
      refine lv_iconst (v := 2) hx hb d_Mod_search_78 (by decide) ?_
      refine lv_aload_n hx hb d_Mod_search_79 rfl (lv_at hl 4 rfl) ?_
      refine va_get (D := D) (ci := 4) (v := .int (T_4 0 1)) (C := R_Mod) (T := T_Mod) (N := 29) hx hb hts i_Mod hown hK hP 0 rfl rfl 1 (by decide) (hts _ mb_524) (fun _ h9 => h9) rfl d_Mod_search_80 ?_
      refine lv_imul hx hb d_Mod_search_83 ?_
      refine lv_topi (fun f_6 ef_6 => ?_)
      refine lv_icmp_ne (tgt := 93) hx hb d_Mod_search_84 (by decide) (fun c_7 => ?_) (fun c_7 => ?_)
      · skip
        have sB := sI.2 (fun h9 => c_7 (by rw [ef_5, ef_6]; exact h9))
        refine lv_iload_n hx hb d_Mod_search_93 rfl (lv_at hl 5 rfl) ?_
        refine lv_aload_n hx hb d_Mod_search_94 rfl (lv_at hl 4 rfl) ?_
        refine va_get (D := D) (ci := 4) (v := .ref (d 9)) (C := R_Mod) (T := T_Mod) (N := 29) hx hb hts i_Mod hown hK hP 0 rfl rfl 21 (by decide) (hts _ mb_544) (fun _ h9 => h9) rfl d_Mod_search_95 ?_
        refine lv_iload hx hb d_Mod_search_98 (lv_at hl 0 rfl) ?_
        refine va_iald hx hb hK hP 9 0 rfl rfl (in_le hk6 (by decide)) d_Mod_search_100 ?_
        refine lv_topi (fun f_8 ef_8 => ?_)
        refine lv_iconst (v := 2) hx hb d_Mod_search_101 (by decide) ?_
        refine lv_idiv hx hb d_Mod_search_102 (by decide) ?_
        refine lv_topi (fun f_9 ef_9 => ?_)
        refine lv_ishr hx hb d_Mod_search_103 ?_
        refine lv_topi (fun f_10 ef_10 => ?_)
        refine lv_iconst (v := 1) hx hb d_Mod_search_104 (by decide) ?_
        refine lv_iand hx hb d_Mod_search_105 ?_
        refine lv_topi (fun f_11 ef_11 => ?_)
        refine lv_iconst (v := 1) hx hb d_Mod_search_106 (by decide) ?_
        refine lv_icmp_ne (tgt := 55) hx hb d_Mod_search_107 (by decide) (fun c_12 => ?_) (fun c_12 => ?_)
        · skip
          have e9 : q_Mod_search q v g i (n + 1) k h j M = q_Mod_search q v g i n k h j T_4 := by
            subst ef_2 ef_3 eT_4 ef_5 ef_6 ef_8 ef_9 ef_10 ef_11; rw [q_Mod_search]; simp only [if_neg c_1, if_neg c_7, if_neg c_12]
          rw [e9] at hres
          exact ih k h j T_4 ⟨sB.1, hi.2⟩ res hres _ _ (hP.sub [0, 1, 2, 3, 4, 5, 6, 7, 8, 9, 10, 11, 12, 13] rfl) (hD.sub [0, 1, 2, 3, 4, 5, 6, 7, 8, 9, 10, 11, 12, 13] (by decide) rfl) hS _ (lv_sub hl [0, 1, 2, 3, 4, 5, 6, 7] rfl)
        · skip
          refine lv_aload_n hx hb d_Mod_search_110 rfl (lv_at hl 4 rfl) ?_
          refine lv_iload hx hb d_Mod_search_111 (lv_at hl 0 rfl) ?_
          refine hr_callV (C := R_Mod) (T := T_Mod) (N := 29) (As := [.int k]) (rest := []) ⟨hx, hb, hml, hown, hts⟩ (k_Mod_isUsed l D cA cZ cL a d T_4 k (in_le hk6 (by decide))) (bv_V 1 hts mb_659 (hts _ mb_5) (hts _ mb_656) (hts _ mb_658) (hts _ mbp_12) (by decide +kernel) ⟨Nat.le_of_ble_eq_true rfl, Nat.le_of_ble_eq_true rfl⟩) hK hZ hP [0, 1, 2, 3, 4, 5, 6, 7, 8, 9, 10, 11, 12, 13] rfl 0 4 rfl rfl rfl hl.1 rfl (lv_room (Nat.le_of_ble_eq_true rfl)) d_Mod_search_113 ⟨Nat.zero_le _, Nat.zero_le _⟩ ?_
          refine lv_topi (fun f_13 ef_13 => ?_)
          refine lv_if_ne (tgt := 55) hx hb d_Mod_search_116 (by decide) (fun c_14 => ?_) (fun c_14 => ?_)
          · skip
            have e9 : q_Mod_search q v g i (n + 1) k h j M = q_Mod_search q v g i n k h j T_4 := by
              subst ef_2 ef_3 eT_4 ef_5 ef_6 ef_8 ef_9 ef_10 ef_11 ef_13; rw [q_Mod_search]; simp only [if_neg c_1, if_neg c_7, if_pos c_12, if_neg c_14]
            rw [e9] at hres
            exact ih k h j T_4 ⟨sB.1, hi.2⟩ res hres _ _ (hP.sub [0, 1, 2, 3, 4, 5, 6, 7, 8, 9, 10, 11, 12, 13] rfl) (hD.sub [0, 1, 2, 3, 4, 5, 6, 7, 8, 9, 10, 11, 12, 13] (by decide) rfl) hS _ (lv_sub hl [0, 1, 2, 3, 4, 5, 6, 7] rfl)
          · skip
            refine lv_aload_n hx hb d_Mod_search_119 rfl (lv_at hl 4 rfl) ?_
            refine lv_iload hx hb d_Mod_search_120 (lv_at hl 0 rfl) ?_
            refine lv_iconst (v := 1) hx hb d_Mod_search_122 (by decide) ?_
            refine lv_iadd hx hb d_Mod_search_123 ?_
            refine lv_topi (fun f_15 ef_15 => ?_)
            refine hw_callVi (C := R_Mod) (T := T_Mod) (N := 29) (wr := []) (As := [.int f_15]) (rest := []) ⟨hx, hb, hml, hown, hts⟩ (k_Mod_workOut l D cA cZ cL a d T_4 f_15 (by rw [ef_15]; exact in_s hk6 (by decide)) sB.1.2.1 (by rw [ef_15]; exact sB.2)) (bv_V 1 hts mb_663 (hts _ mb_5) (hts _ mb_660) (hts _ mb_662) (hts _ mbp_13) (by decide +kernel) ⟨Nat.le_of_ble_eq_true rfl, Nat.le_of_ble_eq_true rfl⟩) hK hZ hP hD hS hA [0, 1, 2, 3, 4, 5, 6, 7, 8, 9, 10, 11, 12, 13] [] rfl rfl (by decide) (by decide) (by decide) 0 4 rfl rfl rfl hl.1 rfl (lv_room (Nat.le_of_ble_eq_true rfl)) d_Mod_search_124 ⟨Nat.zero_le _, Nat.zero_le _⟩ (fun H locs hP hD hS => ?_)
            have hP : va_P D cls [(a, .inr (4, [.int ((r_Mod_workOut T_4 f_15).2 0 0), .int ((r_Mod_workOut T_4 f_15).2 0 1), .ref (d 1), .ref (d 2), .ref (d 3), .ref (d 4), .ref (d 5), .ref (d 6), .int ((r_Mod_workOut T_4 f_15).2 0 2), .int ((r_Mod_workOut T_4 f_15).2 0 3), .int ((r_Mod_workOut T_4 f_15).2 0 4), .int ((r_Mod_workOut T_4 f_15).2 0 5), .int ((r_Mod_workOut T_4 f_15).2 0 6), .int ((r_Mod_workOut T_4 f_15).2 0 7), .int ((r_Mod_workOut T_4 f_15).2 0 8), .ref (d 7), .int ((r_Mod_workOut T_4 f_15).2 0 9), .int ((r_Mod_workOut T_4 f_15).2 0 10), .int ((r_Mod_workOut T_4 f_15).2 0 11), .int ((r_Mod_workOut T_4 f_15).2 0 12), .ref (d 8), .ref (d 9), .ref (d 10), .ref (d 11), .ref (d 12), .ref (d 13), .int ((r_Mod_workOut T_4 f_15).2 0 13), .int ((r_Mod_workOut T_4 f_15).2 0 14), .int ((r_Mod_workOut T_4 f_15).2 0 15)])), (d 1, .inl (cA, 6, .inl ((r_Mod_workOut T_4 f_15).2 1))), (d 2, .inl (cA, 6, .inl ((r_Mod_workOut T_4 f_15).2 2))), (d 3, .inl (cA, 6, .inl ((r_Mod_workOut T_4 f_15).2 3))), (d 4, .inl (cA, 6, .inl ((r_Mod_workOut T_4 f_15).2 4))), (d 5, .inl (cA, 6, .inl ((r_Mod_workOut T_4 f_15).2 5))), (d 6, .inl (cA, 6, .inl ((r_Mod_workOut T_4 f_15).2 6))), (d 7, .inl (cA, 36, .inl ((r_Mod_workOut T_4 f_15).2 7))), (d 8, .inl (cA, 6, .inl ((r_Mod_workOut T_4 f_15).2 8))), (d 9, .inl (cA, 7, .inl ((r_Mod_workOut T_4 f_15).2 9))), (d 10, .inl (cA, 6, .inl ((r_Mod_workOut T_4 f_15).2 10))), (d 11, .inl (cA, 6, .inl ((r_Mod_workOut T_4 f_15).2 11))), (d 12, .inl (cA, 6, .inl ((r_Mod_workOut T_4 f_15).2 12))), (d 13, .inl (cZ, 6, .inl ((r_Mod_workOut T_4 f_15).2 13)))] H := hP
            have hD : va_D A [(a, .inr (4, [.int ((r_Mod_workOut T_4 f_15).2 0 0), .int ((r_Mod_workOut T_4 f_15).2 0 1), .ref (d 1), .ref (d 2), .ref (d 3), .ref (d 4), .ref (d 5), .ref (d 6), .int ((r_Mod_workOut T_4 f_15).2 0 2), .int ((r_Mod_workOut T_4 f_15).2 0 3), .int ((r_Mod_workOut T_4 f_15).2 0 4), .int ((r_Mod_workOut T_4 f_15).2 0 5), .int ((r_Mod_workOut T_4 f_15).2 0 6), .int ((r_Mod_workOut T_4 f_15).2 0 7), .int ((r_Mod_workOut T_4 f_15).2 0 8), .ref (d 7), .int ((r_Mod_workOut T_4 f_15).2 0 9), .int ((r_Mod_workOut T_4 f_15).2 0 10), .int ((r_Mod_workOut T_4 f_15).2 0 11), .int ((r_Mod_workOut T_4 f_15).2 0 12), .ref (d 8), .ref (d 9), .ref (d 10), .ref (d 11), .ref (d 12), .ref (d 13), .int ((r_Mod_workOut T_4 f_15).2 0 13), .int ((r_Mod_workOut T_4 f_15).2 0 14), .int ((r_Mod_workOut T_4 f_15).2 0 15)])), (d 1, .inl (cA, 6, .inl ((r_Mod_workOut T_4 f_15).2 1))), (d 2, .inl (cA, 6, .inl ((r_Mod_workOut T_4 f_15).2 2))), (d 3, .inl (cA, 6, .inl ((r_Mod_workOut T_4 f_15).2 3))), (d 4, .inl (cA, 6, .inl ((r_Mod_workOut T_4 f_15).2 4))), (d 5, .inl (cA, 6, .inl ((r_Mod_workOut T_4 f_15).2 5))), (d 6, .inl (cA, 6, .inl ((r_Mod_workOut T_4 f_15).2 6))), (d 7, .inl (cA, 36, .inl ((r_Mod_workOut T_4 f_15).2 7))), (d 8, .inl (cA, 6, .inl ((r_Mod_workOut T_4 f_15).2 8))), (d 9, .inl (cA, 7, .inl ((r_Mod_workOut T_4 f_15).2 9))), (d 10, .inl (cA, 6, .inl ((r_Mod_workOut T_4 f_15).2 10))), (d 11, .inl (cA, 6, .inl ((r_Mod_workOut T_4 f_15).2 11))), (d 12, .inl (cA, 6, .inl ((r_Mod_workOut T_4 f_15).2 12))), (d 13, .inl (cZ, 6, .inl ((r_Mod_workOut T_4 f_15).2 13)))] := hD
            refine lv_topi (fun f_16 ef_16 => ?_)
            obtain ⟨T_17, eT_17⟩ : ∃ T : Nat → Nat → Int32, T = (r_Mod_workOut T_4 f_15).2 := ⟨_, rfl⟩
            have hP : va_P D cls [(a, .inr (4, [.int (T_17 0 0), .int (T_17 0 1), .ref (d 1), .ref (d 2), .ref (d 3), .ref (d 4), .ref (d 5), .ref (d 6), .int (T_17 0 2), .int (T_17 0 3), .int (T_17 0 4), .int (T_17 0 5), .int (T_17 0 6), .int (T_17 0 7), .int (T_17 0 8), .ref (d 7), .int (T_17 0 9), .int (T_17 0 10), .int (T_17 0 11), .int (T_17 0 12), .ref (d 8), .ref (d 9), .ref (d 10), .ref (d 11), .ref (d 12), .ref (d 13), .int (T_17 0 13), .int (T_17 0 14), .int (T_17 0 15)])), (d 1, .inl (cA, 6, .inl (T_17 1))), (d 2, .inl (cA, 6, .inl (T_17 2))), (d 3, .inl (cA, 6, .inl (T_17 3))), (d 4, .inl (cA, 6, .inl (T_17 4))), (d 5, .inl (cA, 6, .inl (T_17 5))), (d 6, .inl (cA, 6, .inl (T_17 6))), (d 7, .inl (cA, 36, .inl (T_17 7))), (d 8, .inl (cA, 6, .inl (T_17 8))), (d 9, .inl (cA, 7, .inl (T_17 9))), (d 10, .inl (cA, 6, .inl (T_17 10))), (d 11, .inl (cA, 6, .inl (T_17 11))), (d 12, .inl (cA, 6, .inl (T_17 12))), (d 13, .inl (cZ, 6, .inl (T_17 13)))] H := by rw [eT_17]; exact hP
            have hD : va_D A [(a, .inr (4, [.int (T_17 0 0), .int (T_17 0 1), .ref (d 1), .ref (d 2), .ref (d 3), .ref (d 4), .ref (d 5), .ref (d 6), .int (T_17 0 2), .int (T_17 0 3), .int (T_17 0 4), .int (T_17 0 5), .int (T_17 0 6), .int (T_17 0 7), .int (T_17 0 8), .ref (d 7), .int (T_17 0 9), .int (T_17 0 10), .int (T_17 0 11), .int (T_17 0 12), .ref (d 8), .ref (d 9), .ref (d 10), .ref (d 11), .ref (d 12), .ref (d 13), .int (T_17 0 13), .int (T_17 0 14), .int (T_17 0 15)])), (d 1, .inl (cA, 6, .inl (T_17 1))), (d 2, .inl (cA, 6, .inl (T_17 2))), (d 3, .inl (cA, 6, .inl (T_17 3))), (d 4, .inl (cA, 6, .inl (T_17 4))), (d 5, .inl (cA, 6, .inl (T_17 5))), (d 6, .inl (cA, 6, .inl (T_17 6))), (d 7, .inl (cA, 36, .inl (T_17 7))), (d 8, .inl (cA, 6, .inl (T_17 8))), (d 9, .inl (cA, 7, .inl (T_17 9))), (d 10, .inl (cA, 6, .inl (T_17 10))), (d 11, .inl (cA, 6, .inl (T_17 11))), (d 12, .inl (cA, 6, .inl (T_17 12))), (d 13, .inl (cZ, 6, .inl (T_17 13)))] := by rw [eT_17]; exact hD
            have hwf := work_fr T_4 f_15
            rw [← eT_17] at hwf
            unfold MFr at hwf
            have sC : SIv T_17 k i := SIv.of hwf.2.2.2.2.2.2.2.2.2.2.1 hwf.1 hwf.2.2.2.2.2.2.2.2.1 sB.1
            refine lv_if_eq (tgt := 55) hx hb d_Mod_search_127 (by decide) (fun c_18 => ?_) (fun c_18 => ?_)
            · skip
              have e9 : q_Mod_search q v g i (n + 1) k h j M = q_Mod_search q v g i n k h j T_17 := by
                subst ef_2 ef_3 eT_4 ef_5 ef_6 ef_8 ef_9 ef_10 ef_11 ef_13 ef_15 ef_16 eT_17; rw [q_Mod_search]; simp only [if_neg c_1, if_neg c_7, if_pos c_12, if_pos c_14, if_pos c_18]
              rw [e9] at hres
              exact ih k h j T_17 ⟨sC, hi.2⟩ res hres _ _ (hP.sub [0, 1, 2, 3, 4, 5, 6, 7, 8, 9, 10, 11, 12, 13] rfl) (hD.sub [0, 1, 2, 3, 4, 5, 6, 7, 8, 9, 10, 11, 12, 13] (by decide) rfl) hS _ (lv_sub hl [0, 1, 2, 3, 4, 5, 6, 7] rfl)
            · skip
              refine lv_iload_n hx hb d_Mod_search_130 rfl (lv_at hl 7 rfl) ?_
              refine lv_if_ne (tgt := 150) hx hb d_Mod_search_131 (by decide) (fun c_19 => ?_) (fun c_19 => ?_)
              · skip
                refine lv_aload_n hx hb d_Mod_search_150 rfl (lv_at hl 4 rfl) ?_
                refine lv_dup hx hb d_Mod_search_151 rfl ?_
                refine va_get (D := D) (ci := 4) (v := .int (T_17 0 11)) (C := R_Mod) (T := T_Mod) (N := 29) hx hb hts i_Mod hown hK hP 0 rfl rfl 18 (by decide) (hts _ mb_541) (fun _ h9 => h9) rfl d_Mod_search_152 ?_
                refine jn 164 [.int (T_17 0 11), .ref a] 10 [(7, .int k), (5, .int h), (6, .int j), (4, .int i), (0, .ref a), (1, .int q), (2, .int v), (3, .int g)] (0) (fun f_21 ls ef_21 hl => ?_) (fun J => ?_)
                · skip
                  refine lv_iadd hx hb d_Mod_search_164 ?_
                  refine lv_topi (fun f_22 ef_22 => ?_)
                  refine va_put (D := D) (ci := 4) (v := .int f_22) (ty := .int) (C := R_Mod) (T := T_Mod) (N := 29) hx hb hts i_Mod t_Mod t_Mod_ok n_Mod hown hK hP hD hS 0 rfl rfl 18 (by decide) (hts _ mb_541) (fun _ h9 => h9) rfl (by decide +kernel) rfl rfl (Nat.le_of_ble_eq_true rfl) d_Mod_search_165 (fun H locs hP hD hS => ?_)
                  have hP : va_P D cls [(a, .inr (4, [.int (T_17 0 0), .int (T_17 0 1), .ref (d 1), .ref (d 2), .ref (d 3), .ref (d 4), .ref (d 5), .ref (d 6), .int (T_17 0 2), .int (T_17 0 3), .int (T_17 0 4), .int (T_17 0 5), .int (T_17 0 6), .int (T_17 0 7), .int (T_17 0 8), .ref (d 7), .int (T_17 0 9), .int (T_17 0 10), .int f_22, .int (T_17 0 12), .ref (d 8), .ref (d 9), .ref (d 10), .ref (d 11), .ref (d 12), .ref (d 13), .int (T_17 0 13), .int (T_17 0 14), .int (T_17 0 15)])), (d 1, .inl (cA, 6, .inl (T_17 1))), (d 2, .inl (cA, 6, .inl (T_17 2))), (d 3, .inl (cA, 6, .inl (T_17 3))), (d 4, .inl (cA, 6, .inl (T_17 4))), (d 5, .inl (cA, 6, .inl (T_17 5))), (d 6, .inl (cA, 6, .inl (T_17 6))), (d 7, .inl (cA, 36, .inl (T_17 7))), (d 8, .inl (cA, 6, .inl (T_17 8))), (d 9, .inl (cA, 7, .inl (T_17 9))), (d 10, .inl (cA, 6, .inl (T_17 10))), (d 11, .inl (cA, 6, .inl (T_17 11))), (d 12, .inl (cA, 6, .inl (T_17 12))), (d 13, .inl (cZ, 6, .inl (T_17 13)))] H := hP
                  have hD : va_D A [(a, .inr (4, [.int (T_17 0 0), .int (T_17 0 1), .ref (d 1), .ref (d 2), .ref (d 3), .ref (d 4), .ref (d 5), .ref (d 6), .int (T_17 0 2), .int (T_17 0 3), .int (T_17 0 4), .int (T_17 0 5), .int (T_17 0 6), .int (T_17 0 7), .int (T_17 0 8), .ref (d 7), .int (T_17 0 9), .int (T_17 0 10), .int f_22, .int (T_17 0 12), .ref (d 8), .ref (d 9), .ref (d 10), .ref (d 11), .ref (d 12), .ref (d 13), .int (T_17 0 13), .int (T_17 0 14), .int (T_17 0 15)])), (d 1, .inl (cA, 6, .inl (T_17 1))), (d 2, .inl (cA, 6, .inl (T_17 2))), (d 3, .inl (cA, 6, .inl (T_17 3))), (d 4, .inl (cA, 6, .inl (T_17 4))), (d 5, .inl (cA, 6, .inl (T_17 5))), (d 6, .inl (cA, 6, .inl (T_17 6))), (d 7, .inl (cA, 36, .inl (T_17 7))), (d 8, .inl (cA, 6, .inl (T_17 8))), (d 9, .inl (cA, 7, .inl (T_17 9))), (d 10, .inl (cA, 6, .inl (T_17 10))), (d 11, .inl (cA, 6, .inl (T_17 11))), (d 12, .inl (cA, 6, .inl (T_17 12))), (d 13, .inl (cZ, 6, .inl (T_17 13)))] := hD
                  obtain ⟨T_23, eT_23⟩ : ∃ T : Nat → Nat → Int32, T = (tb [(tv [T_17 0 0, T_17 0 1, T_17 0 2, T_17 0 3, T_17 0 4, T_17 0 5, T_17 0 6, T_17 0 7, T_17 0 8, T_17 0 9, T_17 0 10, f_22, T_17 0 12, T_17 0 13, T_17 0 14, T_17 0 15]), T_17 1, T_17 2, T_17 3, T_17 4, T_17 5, T_17 6, T_17 7, T_17 8, T_17 9, T_17 10, T_17 11, T_17 12, T_17 13]) := ⟨_, rfl⟩
                  have hP : va_P D cls [(a, .inr (4, [.int (T_23 0 0), .int (T_23 0 1), .ref (d 1), .ref (d 2), .ref (d 3), .ref (d 4), .ref (d 5), .ref (d 6), .int (T_23 0 2), .int (T_23 0 3), .int (T_23 0 4), .int (T_23 0 5), .int (T_23 0 6), .int (T_23 0 7), .int (T_23 0 8), .ref (d 7), .int (T_23 0 9), .int (T_23 0 10), .int (T_23 0 11), .int (T_23 0 12), .ref (d 8), .ref (d 9), .ref (d 10), .ref (d 11), .ref (d 12), .ref (d 13), .int (T_23 0 13), .int (T_23 0 14), .int (T_23 0 15)])), (d 1, .inl (cA, 6, .inl (T_23 1))), (d 2, .inl (cA, 6, .inl (T_23 2))), (d 3, .inl (cA, 6, .inl (T_23 3))), (d 4, .inl (cA, 6, .inl (T_23 4))), (d 5, .inl (cA, 6, .inl (T_23 5))), (d 6, .inl (cA, 6, .inl (T_23 6))), (d 7, .inl (cA, 36, .inl (T_23 7))), (d 8, .inl (cA, 6, .inl (T_23 8))), (d 9, .inl (cA, 7, .inl (T_23 9))), (d 10, .inl (cA, 6, .inl (T_23 10))), (d 11, .inl (cA, 6, .inl (T_23 11))), (d 12, .inl (cA, 6, .inl (T_23 12))), (d 13, .inl (cZ, 6, .inl (T_23 13)))] H := by rw [eT_23]; exact hP
                  have hD : va_D A [(a, .inr (4, [.int (T_23 0 0), .int (T_23 0 1), .ref (d 1), .ref (d 2), .ref (d 3), .ref (d 4), .ref (d 5), .ref (d 6), .int (T_23 0 2), .int (T_23 0 3), .int (T_23 0 4), .int (T_23 0 5), .int (T_23 0 6), .int (T_23 0 7), .int (T_23 0 8), .ref (d 7), .int (T_23 0 9), .int (T_23 0 10), .int (T_23 0 11), .int (T_23 0 12), .ref (d 8), .ref (d 9), .ref (d 10), .ref (d 11), .ref (d 12), .ref (d 13), .int (T_23 0 13), .int (T_23 0 14), .int (T_23 0 15)])), (d 1, .inl (cA, 6, .inl (T_23 1))), (d 2, .inl (cA, 6, .inl (T_23 2))), (d 3, .inl (cA, 6, .inl (T_23 3))), (d 4, .inl (cA, 6, .inl (T_23 4))), (d 5, .inl (cA, 6, .inl (T_23 5))), (d 6, .inl (cA, 6, .inl (T_23 6))), (d 7, .inl (cA, 36, .inl (T_23 7))), (d 8, .inl (cA, 6, .inl (T_23 8))), (d 9, .inl (cA, 7, .inl (T_23 9))), (d 10, .inl (cA, 6, .inl (T_23 10))), (d 11, .inl (cA, 6, .inl (T_23 11))), (d 12, .inl (cA, 6, .inl (T_23 12))), (d 13, .inl (cZ, 6, .inl (T_23 13)))] := by rw [eT_23]; exact hD
                  have sD : SIv T_23 k i := SIv.of (by rw [eT_23]; rfl) (by rw [eT_23]; rfl) (by rw [eT_23]; rfl) sC
                  have hw3 : ∀ j : Nat, (j : Int) < (k + 1).toInt → vp_in (T_23 9 j) 12 := by
                    have e5 : T_23 9 = T_4 9 := by rw [eT_23]; exact hwf.2.2.2.2.2.2.2.2.1
                    rw [e5]; exact sB.2
                  refine jn 187 [] 10 [(7, .int k), (5, .int h), (6, .int j), (4, .int i), (0, .ref a), (1, .int q), (2, .int v), (3, .int g)] (if h = 0 then (0) else (let f_25 : Int32 := r_Mod_costNow T_23; if f_25 < j then (0) else (1))) (fun f_27 ls ef_27 hl => ?_) (fun J => ?_)
                  · skip
                    refine lv_istore (lv' := [(8, .int f_27), (7, .int k), (5, .int h), (6, .int j), (4, .int i), (0, .ref a), (1, .int q), (2, .int v), (3, .int g)]) hx hb d_Mod_search_187 hl (by decide) rfl (fun ls hl => ?_)
                    refine lv_iload hx hb d_Mod_search_189 (lv_at hl 0 rfl) ?_
                    refine lv_if_ne (tgt := 251) hx hb d_Mod_search_191 (by decide) (fun c_28 => ?_) (fun c_28 => ?_)
                    · skip
                      refine lv_iload hx hb d_Mod_search_251 (lv_at hl 0 rfl) ?_
                      refine lv_if_ne (tgt := 267) hx hb d_Mod_search_253 (by decide) (fun c_29 => ?_) (fun c_29 => ?_)
                      · skip
                        refine lv_goto (tgt := 55) hx hb d_Mod_search_267 (by decide) ?_
                        have e9 : q_Mod_search q v g i (n + 1) k h j M = q_Mod_search q v g i n k h j T_23 := by
                          subst ef_2 ef_3 eT_4 ef_5 ef_6 ef_8 ef_9 ef_10 ef_11 ef_13 ef_15 ef_16 eT_17 ef_21 ef_22 eT_23 ef_27; rw [q_Mod_search]; simp only [if_neg c_1, if_neg c_7, if_pos c_12, if_pos c_14, if_neg c_18, if_neg c_19, if_neg c_28, if_neg c_29]
                        rw [e9] at hres
                        exact ih k h j T_23 ⟨sD, hi.2⟩ res hres _ _ (hP.sub [0, 1, 2, 3, 4, 5, 6, 7, 8, 9, 10, 11, 12, 13] rfl) (hD.sub [0, 1, 2, 3, 4, 5, 6, 7, 8, 9, 10, 11, 12, 13] (by decide) rfl) hS _ (lv_sub hl [1, 2, 3, 4, 5, 6, 7, 8] rfl)
                      · exact absurd c_29 c_28
                    · skip
                      refine lv_iload hx hb d_Mod_search_194 (lv_at hl 1 rfl) ?_
                      refine lv_iconst (v := 1) hx hb d_Mod_search_196 (by decide) ?_
                      refine lv_iadd hx hb d_Mod_search_197 ?_
                      refine lv_topi (fun f_30 ef_30 => ?_)
                      refine lv_iload hx hb d_Mod_search_198 (lv_at hl 4 rfl) ?_
                      refine lv_icmp_ne (tgt := 251) hx hb d_Mod_search_200 (by decide) (fun c_31 => ?_) (fun c_31 => ?_)
                      · skip
                        refine lv_iload hx hb d_Mod_search_251 (lv_at hl 0 rfl) ?_
                        refine lv_if_ne (tgt := 267) hx hb d_Mod_search_253 (by decide) (fun c_32 => ?_) (fun c_32 => ?_)
                        · exact absurd c_28 c_32
                        · skip
                          obtain ⟨x_33, ex_33⟩ : ∃ y : Int32, y = k + 1 := ⟨_, rfl⟩
                          refine lv_iinc (v := x_33) (lv' := [(7, .int x_33), (8, .int f_27), (5, .int h), (6, .int j), (4, .int i), (0, .ref a), (1, .int q), (2, .int v), (3, .int g)]) hx hb d_Mod_search_256 hl (k := 1) rfl (by rw [ex_33]; rfl) (by decide) rfl (fun ls hl => ?_)
                          refine lv_aload_n hx hb d_Mod_search_259 rfl (lv_at hl 5 rfl) ?_
                          refine va_get (D := D) (ci := 4) (v := .ref (d 9)) (C := R_Mod) (T := T_Mod) (N := 29) hx hb hts i_Mod hown hK hP 0 rfl rfl 21 (by decide) (hts _ mb_544) (fun _ h9 => h9) rfl d_Mod_search_260 ?_
                          refine lv_iload hx hb d_Mod_search_263 (lv_at hl 0 rfl) ?_
                          refine lv_iconst (v := (-1)) hx hb d_Mod_search_265 (by decide) ?_
                          refine va_iast hx hb hK hP hD hS 9 0 rfl rfl (by rw [ex_33]; exact in_s hk6 (by decide)) d_Mod_search_266 (fun H locs hP hD hS => ?_)
                          have hP : va_P D cls [(a, .inr (4, [.int (T_23 0 0), .int (T_23 0 1), .ref (d 1), .ref (d 2), .ref (d 3), .ref (d 4), .ref (d 5), .ref (d 6), .int (T_23 0 2), .int (T_23 0 3), .int (T_23 0 4), .int (T_23 0 5), .int (T_23 0 6), .int (T_23 0 7), .int (T_23 0 8), .ref (d 7), .int (T_23 0 9), .int (T_23 0 10), .int (T_23 0 11), .int (T_23 0 12), .ref (d 8), .ref (d 9), .ref (d 10), .ref (d 11), .ref (d 12), .ref (d 13), .int (T_23 0 13), .int (T_23 0 14), .int (T_23 0 15)])), (d 1, .inl (cA, 6, .inl (T_23 1))), (d 2, .inl (cA, 6, .inl (T_23 2))), (d 3, .inl (cA, 6, .inl (T_23 3))), (d 4, .inl (cA, 6, .inl (T_23 4))), (d 5, .inl (cA, 6, .inl (T_23 5))), (d 6, .inl (cA, 6, .inl (T_23 6))), (d 7, .inl (cA, 36, .inl (T_23 7))), (d 8, .inl (cA, 6, .inl (T_23 8))), (d 9, .inl (cA, 7, .inl (upd (T_23 9) x_33.toNatClampNeg (-1)))), (d 10, .inl (cA, 6, .inl (T_23 10))), (d 11, .inl (cA, 6, .inl (T_23 11))), (d 12, .inl (cA, 6, .inl (T_23 12))), (d 13, .inl (cZ, 6, .inl (T_23 13)))] H := hP
                          have hD : va_D A [(a, .inr (4, [.int (T_23 0 0), .int (T_23 0 1), .ref (d 1), .ref (d 2), .ref (d 3), .ref (d 4), .ref (d 5), .ref (d 6), .int (T_23 0 2), .int (T_23 0 3), .int (T_23 0 4), .int (T_23 0 5), .int (T_23 0 6), .int (T_23 0 7), .int (T_23 0 8), .ref (d 7), .int (T_23 0 9), .int (T_23 0 10), .int (T_23 0 11), .int (T_23 0 12), .ref (d 8), .ref (d 9), .ref (d 10), .ref (d 11), .ref (d 12), .ref (d 13), .int (T_23 0 13), .int (T_23 0 14), .int (T_23 0 15)])), (d 1, .inl (cA, 6, .inl (T_23 1))), (d 2, .inl (cA, 6, .inl (T_23 2))), (d 3, .inl (cA, 6, .inl (T_23 3))), (d 4, .inl (cA, 6, .inl (T_23 4))), (d 5, .inl (cA, 6, .inl (T_23 5))), (d 6, .inl (cA, 6, .inl (T_23 6))), (d 7, .inl (cA, 36, .inl (T_23 7))), (d 8, .inl (cA, 6, .inl (T_23 8))), (d 9, .inl (cA, 7, .inl (upd (T_23 9) x_33.toNatClampNeg (-1)))), (d 10, .inl (cA, 6, .inl (T_23 10))), (d 11, .inl (cA, 6, .inl (T_23 11))), (d 12, .inl (cA, 6, .inl (T_23 12))), (d 13, .inl (cZ, 6, .inl (T_23 13)))] := hD
                          refine lv_goto (tgt := 55) hx hb d_Mod_search_267 (by decide) ?_
                          have e9 : q_Mod_search q v g i (n + 1) k h j M = q_Mod_search q v g i n x_33 h j (tb [T_23 0, T_23 1, T_23 2, T_23 3, T_23 4, T_23 5, T_23 6, T_23 7, T_23 8, upd (T_23 9) x_33.toNatClampNeg (-1), T_23 10, T_23 11, T_23 12, T_23 13]) := by
                            subst ef_2 ef_3 eT_4 ef_5 ef_6 ef_8 ef_9 ef_10 ef_11 ef_13 ef_15 ef_16 eT_17 ef_21 ef_22 eT_23 ef_27 ef_30 ex_33; rw [q_Mod_search]; simp only [if_neg c_1, if_neg c_7, if_pos c_12, if_pos c_14, if_neg c_18, if_neg c_19, if_pos c_28, if_neg c_31, if_pos c_32]
                          rw [e9] at hres
                          exact ih x_33 h j (tb [T_23 0, T_23 1, T_23 2, T_23 3, T_23 4, T_23 5, T_23 6, T_23 7, T_23 8, upd (T_23 9) x_33.toNatClampNeg (-1), T_23 10, T_23 11, T_23 12, T_23 13]) ⟨(S_desc sD hk6 hi7 hw3 ex_33 ef_30 c_31 rfl rfl rfl), hi.2⟩ res hres _ _ (hP.sub [0, 1, 2, 3, 4, 5, 6, 7, 8, 9, 10, 11, 12, 13] rfl) (hD.sub [0, 1, 2, 3, 4, 5, 6, 7, 8, 9, 10, 11, 12, 13] (by decide) rfl) hS _ (lv_sub hl [0, 2, 3, 4, 5, 6, 7, 8] rfl)
                      · skip
                        refine lv_iconst (v := 1) hx hb d_Mod_search_203 (by decide) ?_
                        refine lv_istore (lv' := [(5, .int 1), (8, .int f_27), (7, .int k), (6, .int j), (4, .int i), (0, .ref a), (1, .int q), (2, .int v), (3, .int g)]) hx hb d_Mod_search_204 hl (by decide) rfl (fun ls hl => ?_)
                        refine lv_aload_n hx hb d_Mod_search_206 rfl (lv_at hl 5 rfl) ?_
                        refine hr_callV (C := R_Mod) (T := T_Mod) (N := 29) (As := []) (rest := []) ⟨hx, hb, hml, hown, hts⟩ (k_Mod_costNow l D cA cZ cL a d T_23  ) (bv_V 0 hts mb_671 (hts _ mb_5) (hts _ mb_668) (hts _ mb_670) (hts _ mbp_15) (by decide +kernel) ⟨Nat.le_of_ble_eq_true rfl, Nat.le_of_ble_eq_true rfl⟩) hK hZ hP [0, 1, 2, 3, 4, 5, 6, 7, 8, 9, 10, 11, 12, 13] rfl 0 4 rfl rfl rfl hl.1 rfl (lv_room (Nat.le_of_ble_eq_true rfl)) d_Mod_search_207 ⟨Nat.zero_le _, Nat.zero_le _⟩ ?_
                        refine lv_topi (fun f_34 ef_34 => ?_)
                        refine lv_istore (lv' := [(6, .int f_34), (5, .int 1), (8, .int f_27), (7, .int k), (4, .int i), (0, .ref a), (1, .int q), (2, .int v), (3, .int g)]) hx hb d_Mod_search_210 hl (by decide) rfl (fun ls hl => ?_)
                        refine lv_iload_n hx hb d_Mod_search_212 rfl (lv_at hl 8 rfl) ?_
                        refine lv_if_eq (tgt := 218) hx hb d_Mod_search_213 (by decide) (fun c_35 => ?_) (fun c_35 => ?_)
                        · exact absurd c_35 c_19
                        · skip
                          refine lv_iconst (v := 1) hx hb d_Mod_search_216 (by decide) ?_
                          have e9 : q_Mod_search q v g i (n + 1) k h j M = some (1, T_23) := by
                            subst ef_2 ef_3 eT_4 ef_5 ef_6 ef_8 ef_9 ef_10 ef_11 ef_13 ef_15 ef_16 eT_17 ef_21 ef_22 eT_23 ef_27 ef_30 ef_34; rw [q_Mod_search]; simp only [if_neg c_1, if_neg c_7, if_pos c_12, if_pos c_14, if_neg c_18, if_neg c_19, if_pos c_28, if_pos c_31, if_neg c_35]
                          have e8 := Option.some.inj (hres.symm.trans e9)
                          exact W.zret (v := 1) hx hb hr rfl (fun t ht hW => ⟨⟨_, (), rfl, (by rw [e8]), (by rw [e8, ht]; try dsimp only; exact hP.sub [0, 1, 2, 3, 4, 5, 6, 7, 8, 9, 10, 11, 12, 13] rfl), (by rw [e8]; try dsimp only; exact hD.sub [0, 1, 2, 3, 4, 5, 6, 7, 8, 9, 10, 11, 12, 13] (by decide) rfl)⟩, hS.F ht⟩) hS.2.2 d_Mod_search_217
                  · skip
                    refine lv_iload hx hb d_Mod_search_168 (lv_at hl 1 rfl) ?_
                    refine lv_if_eq (tgt := 186) hx hb d_Mod_search_170 (by decide) (fun c_24 => ?_) (fun c_24 => ?_)
                    · skip
                      refine lv_iconst (v := 0) hx hb d_Mod_search_186 (by decide) ?_
                      exact J _ _ (by simp only [if_pos c_24]) (lv_sub hl [0, 1, 2, 3, 4, 5, 6, 7] rfl)
                    · skip
                      refine lv_aload_n hx hb d_Mod_search_173 rfl (lv_at hl 4 rfl) ?_
                      refine hr_callV (C := R_Mod) (T := T_Mod) (N := 29) (As := []) (rest := []) ⟨hx, hb, hml, hown, hts⟩ (k_Mod_costNow l D cA cZ cL a d T_23  ) (bv_V 0 hts mb_671 (hts _ mb_5) (hts _ mb_668) (hts _ mb_670) (hts _ mbp_15) (by decide +kernel) ⟨Nat.le_of_ble_eq_true rfl, Nat.le_of_ble_eq_true rfl⟩) hK hZ hP [0, 1, 2, 3, 4, 5, 6, 7, 8, 9, 10, 11, 12, 13] rfl 0 4 rfl rfl rfl hl.1 rfl (lv_room (Nat.le_of_ble_eq_true rfl)) d_Mod_search_174 ⟨Nat.zero_le _, Nat.zero_le _⟩ ?_
                      refine lv_topi (fun f_25 ef_25 => ?_)
                      refine lv_iload hx hb d_Mod_search_177 (lv_at hl 2 rfl) ?_
                      refine lv_icmp_lt (tgt := 186) hx hb d_Mod_search_179 (by decide) (fun c_26 => ?_) (fun c_26 => ?_)
                      · skip
                        refine lv_iconst (v := 0) hx hb d_Mod_search_186 (by decide) ?_
                        exact J _ _ (by subst ef_25; simp only [if_neg c_24, if_pos c_26]) (lv_sub hl [0, 1, 2, 3, 4, 5, 6, 7] rfl)
                      · skip
                        refine lv_iconst (v := 1) hx hb d_Mod_search_182 (by decide) ?_
                        refine lv_goto (tgt := 187) hx hb d_Mod_search_183 (by decide) ?_
                        exact J _ _ (by subst ef_25; simp only [if_neg c_24, if_neg c_26]) (lv_sub hl [0, 1, 2, 3, 4, 5, 6, 7] rfl)
                · skip
                  refine lv_iload_n hx hb d_Mod_search_155 rfl (lv_at hl 7 rfl) ?_
                  refine lv_if_eq (tgt := 163) hx hb d_Mod_search_156 (by decide) (fun c_20 => ?_) (fun c_20 => ?_)
                  · exact absurd c_20 c_19
                  · skip
                    refine lv_iconst (v := 0) hx hb d_Mod_search_159 (by decide) ?_
                    refine lv_goto (tgt := 164) hx hb d_Mod_search_160 (by decide) ?_
                    exact J _ _ (by simp only [if_neg c_20]) (lv_sub hl [0, 1, 2, 3, 4, 5, 6, 7] rfl)
              · skip
                refine lv_aload_n hx hb d_Mod_search_134 rfl (lv_at hl 4 rfl) ?_
                refine va_get (D := D) (ci := 4) (v := .int (T_17 0 11)) (C := R_Mod) (T := T_Mod) (N := 29) hx hb hts i_Mod hown hK hP 0 rfl rfl 18 (by decide) (hts _ mb_541) (fun _ h9 => h9) rfl d_Mod_search_135 ?_
                refine lv_iload_n hx hb d_Mod_search_138 rfl (lv_at hl 6 rfl) ?_
                refine lv_icmp_ne (tgt := 150) hx hb d_Mod_search_139 (by decide) (fun c_36 => ?_) (fun c_36 => ?_)
                · skip
                  refine lv_aload_n hx hb d_Mod_search_150 rfl (lv_at hl 4 rfl) ?_
                  refine lv_dup hx hb d_Mod_search_151 rfl ?_
                  refine va_get (D := D) (ci := 4) (v := .int (T_17 0 11)) (C := R_Mod) (T := T_Mod) (N := 29) hx hb hts i_Mod hown hK hP 0 rfl rfl 18 (by decide) (hts _ mb_541) (fun _ h9 => h9) rfl d_Mod_search_152 ?_
                  refine jn 164 [.int (T_17 0 11), .ref a] 10 [(7, .int k), (5, .int h), (6, .int j), (4, .int i), (0, .ref a), (1, .int q), (2, .int v), (3, .int g)] (1) (fun f_38 ls ef_38 hl => ?_) (fun J => ?_)
                  · skip
                    refine lv_iadd hx hb d_Mod_search_164 ?_
                    refine lv_topi (fun f_39 ef_39 => ?_)
                    refine va_put (D := D) (ci := 4) (v := .int f_39) (ty := .int) (C := R_Mod) (T := T_Mod) (N := 29) hx hb hts i_Mod t_Mod t_Mod_ok n_Mod hown hK hP hD hS 0 rfl rfl 18 (by decide) (hts _ mb_541) (fun _ h9 => h9) rfl (by decide +kernel) rfl rfl (Nat.le_of_ble_eq_true rfl) d_Mod_search_165 (fun H locs hP hD hS => ?_)
                    have hP : va_P D cls [(a, .inr (4, [.int (T_17 0 0), .int (T_17 0 1), .ref (d 1), .ref (d 2), .ref (d 3), .ref (d 4), .ref (d 5), .ref (d 6), .int (T_17 0 2), .int (T_17 0 3), .int (T_17 0 4), .int (T_17 0 5), .int (T_17 0 6), .int (T_17 0 7), .int (T_17 0 8), .ref (d 7), .int (T_17 0 9), .int (T_17 0 10), .int f_39, .int (T_17 0 12), .ref (d 8), .ref (d 9), .ref (d 10), .ref (d 11), .ref (d 12), .ref (d 13), .int (T_17 0 13), .int (T_17 0 14), .int (T_17 0 15)])), (d 1, .inl (cA, 6, .inl (T_17 1))), (d 2, .inl (cA, 6, .inl (T_17 2))), (d 3, .inl (cA, 6, .inl (T_17 3))), (d 4, .inl (cA, 6, .inl (T_17 4))), (d 5, .inl (cA, 6, .inl (T_17 5))), (d 6, .inl (cA, 6, .inl (T_17 6))), (d 7, .inl (cA, 36, .inl (T_17 7))), (d 8, .inl (cA, 6, .inl (T_17 8))), (d 9, .inl (cA, 7, .inl (T_17 9))), (d 10, .inl (cA, 6, .inl (T_17 10))), (d 11, .inl (cA, 6, .inl (T_17 11))), (d 12, .inl (cA, 6, .inl (T_17 12))), (d 13, .inl (cZ, 6, .inl (T_17 13)))] H := hP
                    have hD : va_D A [(a, .inr (4, [.int (T_17 0 0), .int (T_17 0 1), .ref (d 1), .ref (d 2), .ref (d 3), .ref (d 4), .ref (d 5), .ref (d 6), .int (T_17 0 2), .int (T_17 0 3), .int (T_17 0 4), .int (T_17 0 5), .int (T_17 0 6), .int (T_17 0 7), .int (T_17 0 8), .ref (d 7), .int (T_17 0 9), .int (T_17 0 10), .int f_39, .int (T_17 0 12), .ref (d 8), .ref (d 9), .ref (d 10), .ref (d 11), .ref (d 12), .ref (d 13), .int (T_17 0 13), .int (T_17 0 14), .int (T_17 0 15)])), (d 1, .inl (cA, 6, .inl (T_17 1))), (d 2, .inl (cA, 6, .inl (T_17 2))), (d 3, .inl (cA, 6, .inl (T_17 3))), (d 4, .inl (cA, 6, .inl (T_17 4))), (d 5, .inl (cA, 6, .inl (T_17 5))), (d 6, .inl (cA, 6, .inl (T_17 6))), (d 7, .inl (cA, 36, .inl (T_17 7))), (d 8, .inl (cA, 6, .inl (T_17 8))), (d 9, .inl (cA, 7, .inl (T_17 9))), (d 10, .inl (cA, 6, .inl (T_17 10))), (d 11, .inl (cA, 6, .inl (T_17 11))), (d 12, .inl (cA, 6, .inl (T_17 12))), (d 13, .inl (cZ, 6, .inl (T_17 13)))] := hD
                    obtain ⟨T_40, eT_40⟩ : ∃ T : Nat → Nat → Int32, T = (tb [(tv [T_17 0 0, T_17 0 1, T_17 0 2, T_17 0 3, T_17 0 4, T_17 0 5, T_17 0 6, T_17 0 7, T_17 0 8, T_17 0 9, T_17 0 10, f_39, T_17 0 12, T_17 0 13, T_17 0 14, T_17 0 15]), T_17 1, T_17 2, T_17 3, T_17 4, T_17 5, T_17 6, T_17 7, T_17 8, T_17 9, T_17 10, T_17 11, T_17 12, T_17 13]) := ⟨_, rfl⟩
                    have hP : va_P D cls [(a, .inr (4, [.int (T_40 0 0), .int (T_40 0 1), .ref (d 1), .ref (d 2), .ref (d 3), .ref (d 4), .ref (d 5), .ref (d 6), .int (T_40 0 2), .int (T_40 0 3), .int (T_40 0 4), .int (T_40 0 5), .int (T_40 0 6), .int (T_40 0 7), .int (T_40 0 8), .ref (d 7), .int (T_40 0 9), .int (T_40 0 10), .int (T_40 0 11), .int (T_40 0 12), .ref (d 8), .ref (d 9), .ref (d 10), .ref (d 11), .ref (d 12), .ref (d 13), .int (T_40 0 13), .int (T_40 0 14), .int (T_40 0 15)])), (d 1, .inl (cA, 6, .inl (T_40 1))), (d 2, .inl (cA, 6, .inl (T_40 2))), (d 3, .inl (cA, 6, .inl (T_40 3))), (d 4, .inl (cA, 6, .inl (T_40 4))), (d 5, .inl (cA, 6, .inl (T_40 5))), (d 6, .inl (cA, 6, .inl (T_40 6))), (d 7, .inl (cA, 36, .inl (T_40 7))), (d 8, .inl (cA, 6, .inl (T_40 8))), (d 9, .inl (cA, 7, .inl (T_40 9))), (d 10, .inl (cA, 6, .inl (T_40 10))), (d 11, .inl (cA, 6, .inl (T_40 11))), (d 12, .inl (cA, 6, .inl (T_40 12))), (d 13, .inl (cZ, 6, .inl (T_40 13)))] H := by rw [eT_40]; exact hP
                    have hD : va_D A [(a, .inr (4, [.int (T_40 0 0), .int (T_40 0 1), .ref (d 1), .ref (d 2), .ref (d 3), .ref (d 4), .ref (d 5), .ref (d 6), .int (T_40 0 2), .int (T_40 0 3), .int (T_40 0 4), .int (T_40 0 5), .int (T_40 0 6), .int (T_40 0 7), .int (T_40 0 8), .ref (d 7), .int (T_40 0 9), .int (T_40 0 10), .int (T_40 0 11), .int (T_40 0 12), .ref (d 8), .ref (d 9), .ref (d 10), .ref (d 11), .ref (d 12), .ref (d 13), .int (T_40 0 13), .int (T_40 0 14), .int (T_40 0 15)])), (d 1, .inl (cA, 6, .inl (T_40 1))), (d 2, .inl (cA, 6, .inl (T_40 2))), (d 3, .inl (cA, 6, .inl (T_40 3))), (d 4, .inl (cA, 6, .inl (T_40 4))), (d 5, .inl (cA, 6, .inl (T_40 5))), (d 6, .inl (cA, 6, .inl (T_40 6))), (d 7, .inl (cA, 36, .inl (T_40 7))), (d 8, .inl (cA, 6, .inl (T_40 8))), (d 9, .inl (cA, 7, .inl (T_40 9))), (d 10, .inl (cA, 6, .inl (T_40 10))), (d 11, .inl (cA, 6, .inl (T_40 11))), (d 12, .inl (cA, 6, .inl (T_40 12))), (d 13, .inl (cZ, 6, .inl (T_40 13)))] := by rw [eT_40]; exact hD
                    have sD : SIv T_40 k i := SIv.of (by rw [eT_40]; rfl) (by rw [eT_40]; rfl) (by rw [eT_40]; rfl) sC
                    have hw3 : ∀ j : Nat, (j : Int) < (k + 1).toInt → vp_in (T_40 9 j) 12 := by
                      have e5 : T_40 9 = T_4 9 := by rw [eT_40]; exact hwf.2.2.2.2.2.2.2.2.1
                      rw [e5]; exact sB.2
                    refine jn 187 [] 10 [(7, .int k), (5, .int h), (6, .int j), (4, .int i), (0, .ref a), (1, .int q), (2, .int v), (3, .int g)] (if h = 0 then (0) else (let f_42 : Int32 := r_Mod_costNow T_40; if f_42 < j then (0) else (1))) (fun f_44 ls ef_44 hl => ?_) (fun J => ?_)
                    · skip
                      refine lv_istore (lv' := [(8, .int f_44), (7, .int k), (5, .int h), (6, .int j), (4, .int i), (0, .ref a), (1, .int q), (2, .int v), (3, .int g)]) hx hb d_Mod_search_187 hl (by decide) rfl (fun ls hl => ?_)
                      refine lv_iload hx hb d_Mod_search_189 (lv_at hl 0 rfl) ?_
                      refine lv_if_ne (tgt := 251) hx hb d_Mod_search_191 (by decide) (fun c_45 => ?_) (fun c_45 => ?_)
                      · skip
                        refine lv_iload hx hb d_Mod_search_251 (lv_at hl 0 rfl) ?_
                        refine lv_if_ne (tgt := 267) hx hb d_Mod_search_253 (by decide) (fun c_46 => ?_) (fun c_46 => ?_)
                        · skip
                          refine lv_goto (tgt := 55) hx hb d_Mod_search_267 (by decide) ?_
                          have e9 : q_Mod_search q v g i (n + 1) k h j M = q_Mod_search q v g i n k h j T_40 := by
                            subst ef_2 ef_3 eT_4 ef_5 ef_6 ef_8 ef_9 ef_10 ef_11 ef_13 ef_15 ef_16 eT_17 ef_38 ef_39 eT_40 ef_44; rw [q_Mod_search]; simp only [if_neg c_1, if_neg c_7, if_pos c_12, if_pos c_14, if_neg c_18, if_pos c_19, if_neg c_36, if_neg c_45, if_neg c_46]
                          rw [e9] at hres
                          exact ih k h j T_40 ⟨sD, hi.2⟩ res hres _ _ (hP.sub [0, 1, 2, 3, 4, 5, 6, 7, 8, 9, 10, 11, 12, 13] rfl) (hD.sub [0, 1, 2, 3, 4, 5, 6, 7, 8, 9, 10, 11, 12, 13] (by decide) rfl) hS _ (lv_sub hl [1, 2, 3, 4, 5, 6, 7, 8] rfl)
                        · exact absurd c_46 c_45
                      · skip
                        refine lv_iload hx hb d_Mod_search_194 (lv_at hl 1 rfl) ?_
                        refine lv_iconst (v := 1) hx hb d_Mod_search_196 (by decide) ?_
                        refine lv_iadd hx hb d_Mod_search_197 ?_
                        refine lv_topi (fun f_47 ef_47 => ?_)
                        refine lv_iload hx hb d_Mod_search_198 (lv_at hl 4 rfl) ?_
                        refine lv_icmp_ne (tgt := 251) hx hb d_Mod_search_200 (by decide) (fun c_48 => ?_) (fun c_48 => ?_)
                        · skip
                          refine lv_iload hx hb d_Mod_search_251 (lv_at hl 0 rfl) ?_
                          refine lv_if_ne (tgt := 267) hx hb d_Mod_search_253 (by decide) (fun c_49 => ?_) (fun c_49 => ?_)
                          · exact absurd c_45 c_49
                          · skip
                            obtain ⟨x_50, ex_50⟩ : ∃ y : Int32, y = k + 1 := ⟨_, rfl⟩
                            refine lv_iinc (v := x_50) (lv' := [(7, .int x_50), (8, .int f_44), (5, .int h), (6, .int j), (4, .int i), (0, .ref a), (1, .int q), (2, .int v), (3, .int g)]) hx hb d_Mod_search_256 hl (k := 1) rfl (by rw [ex_50]; rfl) (by decide) rfl (fun ls hl => ?_)
                            refine lv_aload_n hx hb d_Mod_search_259 rfl (lv_at hl 5 rfl) ?_
                            refine va_get (D := D) (ci := 4) (v := .ref (d 9)) (C := R_Mod) (T := T_Mod) (N := 29) hx hb hts i_Mod hown hK hP 0 rfl rfl 21 (by decide) (hts _ mb_544) (fun _ h9 => h9) rfl d_Mod_search_260 ?_
                            refine lv_iload hx hb d_Mod_search_263 (lv_at hl 0 rfl) ?_
                            refine lv_iconst (v := (-1)) hx hb d_Mod_search_265 (by decide) ?_
                            refine va_iast hx hb hK hP hD hS 9 0 rfl rfl (by rw [ex_50]; exact in_s hk6 (by decide)) d_Mod_search_266 (fun H locs hP hD hS => ?_)
                            have hP : va_P D cls [(a, .inr (4, [.int (T_40 0 0), .int (T_40 0 1), .ref (d 1), .ref (d 2), .ref (d 3), .ref (d 4), .ref (d 5), .ref (d 6), .int (T_40 0 2), .int (T_40 0 3), .int (T_40 0 4), .int (T_40 0 5), .int (T_40 0 6), .int (T_40 0 7), .int (T_40 0 8), .ref (d 7), .int (T_40 0 9), .int (T_40 0 10), .int (T_40 0 11), .int (T_40 0 12), .ref (d 8), .ref (d 9), .ref (d 10), .ref (d 11), .ref (d 12), .ref (d 13), .int (T_40 0 13), .int (T_40 0 14), .int (T_40 0 15)])), (d 1, .inl (cA, 6, .inl (T_40 1))), (d 2, .inl (cA, 6, .inl (T_40 2))), (d 3, .inl (cA, 6, .inl (T_40 3))), (d 4, .inl (cA, 6, .inl (T_40 4))), (d 5, .inl (cA, 6, .inl (T_40 5))), (d 6, .inl (cA, 6, .inl (T_40 6))), (d 7, .inl (cA, 36, .inl (T_40 7))), (d 8, .inl (cA, 6, .inl (T_40 8))), (d 9, .inl (cA, 7, .inl (upd (T_40 9) x_50.toNatClampNeg (-1)))), (d 10, .inl (cA, 6, .inl (T_40 10))), (d 11, .inl (cA, 6, .inl (T_40 11))), (d 12, .inl (cA, 6, .inl (T_40 12))), (d 13, .inl (cZ, 6, .inl (T_40 13)))] H := hP
                            have hD : va_D A [(a, .inr (4, [.int (T_40 0 0), .int (T_40 0 1), .ref (d 1), .ref (d 2), .ref (d 3), .ref (d 4), .ref (d 5), .ref (d 6), .int (T_40 0 2), .int (T_40 0 3), .int (T_40 0 4), .int (T_40 0 5), .int (T_40 0 6), .int (T_40 0 7), .int (T_40 0 8), .ref (d 7), .int (T_40 0 9), .int (T_40 0 10), .int (T_40 0 11), .int (T_40 0 12), .ref (d 8), .ref (d 9), .ref (d 10), .ref (d 11), .ref (d 12), .ref (d 13), .int (T_40 0 13), .int (T_40 0 14), .int (T_40 0 15)])), (d 1, .inl (cA, 6, .inl (T_40 1))), (d 2, .inl (cA, 6, .inl (T_40 2))), (d 3, .inl (cA, 6, .inl (T_40 3))), (d 4, .inl (cA, 6, .inl (T_40 4))), (d 5, .inl (cA, 6, .inl (T_40 5))), (d 6, .inl (cA, 6, .inl (T_40 6))), (d 7, .inl (cA, 36, .inl (T_40 7))), (d 8, .inl (cA, 6, .inl (T_40 8))), (d 9, .inl (cA, 7, .inl (upd (T_40 9) x_50.toNatClampNeg (-1)))), (d 10, .inl (cA, 6, .inl (T_40 10))), (d 11, .inl (cA, 6, .inl (T_40 11))), (d 12, .inl (cA, 6, .inl (T_40 12))), (d 13, .inl (cZ, 6, .inl (T_40 13)))] := hD
                            refine lv_goto (tgt := 55) hx hb d_Mod_search_267 (by decide) ?_
                            have e9 : q_Mod_search q v g i (n + 1) k h j M = q_Mod_search q v g i n x_50 h j (tb [T_40 0, T_40 1, T_40 2, T_40 3, T_40 4, T_40 5, T_40 6, T_40 7, T_40 8, upd (T_40 9) x_50.toNatClampNeg (-1), T_40 10, T_40 11, T_40 12, T_40 13]) := by
                              subst ef_2 ef_3 eT_4 ef_5 ef_6 ef_8 ef_9 ef_10 ef_11 ef_13 ef_15 ef_16 eT_17 ef_38 ef_39 eT_40 ef_44 ef_47 ex_50; rw [q_Mod_search]; simp only [if_neg c_1, if_neg c_7, if_pos c_12, if_pos c_14, if_neg c_18, if_pos c_19, if_neg c_36, if_pos c_45, if_neg c_48, if_pos c_49]
                            rw [e9] at hres
                            exact ih x_50 h j (tb [T_40 0, T_40 1, T_40 2, T_40 3, T_40 4, T_40 5, T_40 6, T_40 7, T_40 8, upd (T_40 9) x_50.toNatClampNeg (-1), T_40 10, T_40 11, T_40 12, T_40 13]) ⟨(S_desc sD hk6 hi7 hw3 ex_50 ef_47 c_48 rfl rfl rfl), hi.2⟩ res hres _ _ (hP.sub [0, 1, 2, 3, 4, 5, 6, 7, 8, 9, 10, 11, 12, 13] rfl) (hD.sub [0, 1, 2, 3, 4, 5, 6, 7, 8, 9, 10, 11, 12, 13] (by decide) rfl) hS _ (lv_sub hl [0, 2, 3, 4, 5, 6, 7, 8] rfl)
                        · skip
                          refine lv_iconst (v := 1) hx hb d_Mod_search_203 (by decide) ?_
                          refine lv_istore (lv' := [(5, .int 1), (8, .int f_44), (7, .int k), (6, .int j), (4, .int i), (0, .ref a), (1, .int q), (2, .int v), (3, .int g)]) hx hb d_Mod_search_204 hl (by decide) rfl (fun ls hl => ?_)
                          refine lv_aload_n hx hb d_Mod_search_206 rfl (lv_at hl 5 rfl) ?_
                          refine hr_callV (C := R_Mod) (T := T_Mod) (N := 29) (As := []) (rest := []) ⟨hx, hb, hml, hown, hts⟩ (k_Mod_costNow l D cA cZ cL a d T_40  ) (bv_V 0 hts mb_671 (hts _ mb_5) (hts _ mb_668) (hts _ mb_670) (hts _ mbp_15) (by decide +kernel) ⟨Nat.le_of_ble_eq_true rfl, Nat.le_of_ble_eq_true rfl⟩) hK hZ hP [0, 1, 2, 3, 4, 5, 6, 7, 8, 9, 10, 11, 12, 13] rfl 0 4 rfl rfl rfl hl.1 rfl (lv_room (Nat.le_of_ble_eq_true rfl)) d_Mod_search_207 ⟨Nat.zero_le _, Nat.zero_le _⟩ ?_
                          refine lv_topi (fun f_51 ef_51 => ?_)
                          refine lv_istore (lv' := [(6, .int f_51), (5, .int 1), (8, .int f_44), (7, .int k), (4, .int i), (0, .ref a), (1, .int q), (2, .int v), (3, .int g)]) hx hb d_Mod_search_210 hl (by decide) rfl (fun ls hl => ?_)
                          refine lv_iload_n hx hb d_Mod_search_212 rfl (lv_at hl 8 rfl) ?_
                          refine lv_if_eq (tgt := 218) hx hb d_Mod_search_213 (by decide) (fun c_52 => ?_) (fun c_52 => ?_)
                          · skip
                            refine lv_iconst (v := 0) hx hb d_Mod_search_218 (by decide) ?_
                            refine lv_istore (lv' := [(9, .int 0), (6, .int f_51), (5, .int 1), (8, .int f_44), (7, .int k), (4, .int i), (0, .ref a), (1, .int q), (2, .int v), (3, .int g)]) hx hb d_Mod_search_219 hl (by decide) rfl (fun ls hl => ?_)
                            refine lb_Mod_search_221 (H0 := s.heap) hx hb hts hown hK hi7 8 0 T_40 (by decide) (fun ls hE_53 H locs hP hD hS hl => ?_) _ _ (hP.sub [0, 1, 2, 3, 4, 5, 6, 7, 8, 9, 10, 11, 12, 13] rfl) (hD.sub [0, 1, 2, 3, 4, 5, 6, 7, 8, 9, 10, 11, 12, 13] (by decide) rfl) hS _ (lv_sub hl [0, 6, 7, 8, 9, 5, 2, 1, 4] rfl)
                            have hP : va_P D cls [(a, .inr (4, [.int ((b_Mod_search_221 i 8 0 T_40) 0 0), .int ((b_Mod_search_221 i 8 0 T_40) 0 1), .ref (d 1), .ref (d 2), .ref (d 3), .ref (d 4), .ref (d 5), .ref (d 6), .int ((b_Mod_search_221 i 8 0 T_40) 0 2), .int ((b_Mod_search_221 i 8 0 T_40) 0 3), .int ((b_Mod_search_221 i 8 0 T_40) 0 4), .int ((b_Mod_search_221 i 8 0 T_40) 0 5), .int ((b_Mod_search_221 i 8 0 T_40) 0 6), .int ((b_Mod_search_221 i 8 0 T_40) 0 7), .int ((b_Mod_search_221 i 8 0 T_40) 0 8), .ref (d 7), .int ((b_Mod_search_221 i 8 0 T_40) 0 9), .int ((b_Mod_search_221 i 8 0 T_40) 0 10), .int ((b_Mod_search_221 i 8 0 T_40) 0 11), .int ((b_Mod_search_221 i 8 0 T_40) 0 12), .ref (d 8), .ref (d 9), .ref (d 10), .ref (d 11), .ref (d 12), .ref (d 13), .int ((b_Mod_search_221 i 8 0 T_40) 0 13), .int ((b_Mod_search_221 i 8 0 T_40) 0 14), .int ((b_Mod_search_221 i 8 0 T_40) 0 15)])), (d 1, .inl (cA, 6, .inl ((b_Mod_search_221 i 8 0 T_40) 1))), (d 2, .inl (cA, 6, .inl ((b_Mod_search_221 i 8 0 T_40) 2))), (d 3, .inl (cA, 6, .inl ((b_Mod_search_221 i 8 0 T_40) 3))), (d 4, .inl (cA, 6, .inl ((b_Mod_search_221 i 8 0 T_40) 4))), (d 5, .inl (cA, 6, .inl ((b_Mod_search_221 i 8 0 T_40) 5))), (d 6, .inl (cA, 6, .inl ((b_Mod_search_221 i 8 0 T_40) 6))), (d 7, .inl (cA, 36, .inl ((b_Mod_search_221 i 8 0 T_40) 7))), (d 8, .inl (cA, 6, .inl ((b_Mod_search_221 i 8 0 T_40) 8))), (d 9, .inl (cA, 7, .inl ((b_Mod_search_221 i 8 0 T_40) 9))), (d 10, .inl (cA, 6, .inl ((b_Mod_search_221 i 8 0 T_40) 10))), (d 11, .inl (cA, 6, .inl ((b_Mod_search_221 i 8 0 T_40) 11))), (d 12, .inl (cA, 6, .inl ((b_Mod_search_221 i 8 0 T_40) 12))), (d 13, .inl (cZ, 6, .inl ((b_Mod_search_221 i 8 0 T_40) 13)))] H := hP
                            have hD : va_D A [(a, .inr (4, [.int ((b_Mod_search_221 i 8 0 T_40) 0 0), .int ((b_Mod_search_221 i 8 0 T_40) 0 1), .ref (d 1), .ref (d 2), .ref (d 3), .ref (d 4), .ref (d 5), .ref (d 6), .int ((b_Mod_search_221 i 8 0 T_40) 0 2), .int ((b_Mod_search_221 i 8 0 T_40) 0 3), .int ((b_Mod_search_221 i 8 0 T_40) 0 4), .int ((b_Mod_search_221 i 8 0 T_40) 0 5), .int ((b_Mod_search_221 i 8 0 T_40) 0 6), .int ((b_Mod_search_221 i 8 0 T_40) 0 7), .int ((b_Mod_search_221 i 8 0 T_40) 0 8), .ref (d 7), .int ((b_Mod_search_221 i 8 0 T_40) 0 9), .int ((b_Mod_search_221 i 8 0 T_40) 0 10), .int ((b_Mod_search_221 i 8 0 T_40) 0 11), .int ((b_Mod_search_221 i 8 0 T_40) 0 12), .ref (d 8), .ref (d 9), .ref (d 10), .ref (d 11), .ref (d 12), .ref (d 13), .int ((b_Mod_search_221 i 8 0 T_40) 0 13), .int ((b_Mod_search_221 i 8 0 T_40) 0 14), .int ((b_Mod_search_221 i 8 0 T_40) 0 15)])), (d 1, .inl (cA, 6, .inl ((b_Mod_search_221 i 8 0 T_40) 1))), (d 2, .inl (cA, 6, .inl ((b_Mod_search_221 i 8 0 T_40) 2))), (d 3, .inl (cA, 6, .inl ((b_Mod_search_221 i 8 0 T_40) 3))), (d 4, .inl (cA, 6, .inl ((b_Mod_search_221 i 8 0 T_40) 4))), (d 5, .inl (cA, 6, .inl ((b_Mod_search_221 i 8 0 T_40) 5))), (d 6, .inl (cA, 6, .inl ((b_Mod_search_221 i 8 0 T_40) 6))), (d 7, .inl (cA, 36, .inl ((b_Mod_search_221 i 8 0 T_40) 7))), (d 8, .inl (cA, 6, .inl ((b_Mod_search_221 i 8 0 T_40) 8))), (d 9, .inl (cA, 7, .inl ((b_Mod_search_221 i 8 0 T_40) 9))), (d 10, .inl (cA, 6, .inl ((b_Mod_search_221 i 8 0 T_40) 10))), (d 11, .inl (cA, 6, .inl ((b_Mod_search_221 i 8 0 T_40) 11))), (d 12, .inl (cA, 6, .inl ((b_Mod_search_221 i 8 0 T_40) 12))), (d 13, .inl (cZ, 6, .inl ((b_Mod_search_221 i 8 0 T_40) 13)))] := hD
                            refine lv_goto (tgt := 267) hx hb d_Mod_search_248 (by decide) ?_
                            refine lv_goto (tgt := 55) hx hb d_Mod_search_267 (by decide) ?_
                            have e9 : q_Mod_search q v g i (n + 1) k h j M = q_Mod_search q v g i n k 1 f_51 (b_Mod_search_221 i 8 0 T_40) := by
                              subst ef_2 ef_3 eT_4 ef_5 ef_6 ef_8 ef_9 ef_10 ef_11 ef_13 ef_15 ef_16 eT_17 ef_38 ef_39 eT_40 ef_44 ef_47 ef_51; rw [q_Mod_search]; simp only [if_neg c_1, if_neg c_7, if_pos c_12, if_pos c_14, if_neg c_18, if_pos c_19, if_neg c_36, if_pos c_45, if_pos c_48, if_pos c_52]
                            rw [e9] at hres
                            exact ih k 1 f_51 (b_Mod_search_221 i 8 0 T_40) ⟨(SIv.of (congrFun hE_53.1 1) hE_53.2.1 hE_53.2.2 sD), Or.inr rfl⟩ res hres _ _ (hP.sub [0, 1, 2, 3, 4, 5, 6, 7, 8, 9, 10, 11, 12, 13] rfl) (hD.sub [0, 1, 2, 3, 4, 5, 6, 7, 8, 9, 10, 11, 12, 13] (by decide) rfl) hS _ (lv_sub hl [7, 5, 6, 4, 0, 1, 2, 3] rfl)
                          · exact absurd c_19 c_52
                    · skip
                      refine lv_iload hx hb d_Mod_search_168 (lv_at hl 1 rfl) ?_
                      refine lv_if_eq (tgt := 186) hx hb d_Mod_search_170 (by decide) (fun c_41 => ?_) (fun c_41 => ?_)
                      · skip
                        refine lv_iconst (v := 0) hx hb d_Mod_search_186 (by decide) ?_
                        exact J _ _ (by simp only [if_pos c_41]) (lv_sub hl [0, 1, 2, 3, 4, 5, 6, 7] rfl)
                      · skip
                        refine lv_aload_n hx hb d_Mod_search_173 rfl (lv_at hl 4 rfl) ?_
                        refine hr_callV (C := R_Mod) (T := T_Mod) (N := 29) (As := []) (rest := []) ⟨hx, hb, hml, hown, hts⟩ (k_Mod_costNow l D cA cZ cL a d T_40  ) (bv_V 0 hts mb_671 (hts _ mb_5) (hts _ mb_668) (hts _ mb_670) (hts _ mbp_15) (by decide +kernel) ⟨Nat.le_of_ble_eq_true rfl, Nat.le_of_ble_eq_true rfl⟩) hK hZ hP [0, 1, 2, 3, 4, 5, 6, 7, 8, 9, 10, 11, 12, 13] rfl 0 4 rfl rfl rfl hl.1 rfl (lv_room (Nat.le_of_ble_eq_true rfl)) d_Mod_search_174 ⟨Nat.zero_le _, Nat.zero_le _⟩ ?_
                        refine lv_topi (fun f_42 ef_42 => ?_)
                        refine lv_iload hx hb d_Mod_search_177 (lv_at hl 2 rfl) ?_
                        refine lv_icmp_lt (tgt := 186) hx hb d_Mod_search_179 (by decide) (fun c_43 => ?_) (fun c_43 => ?_)
                        · skip
                          refine lv_iconst (v := 0) hx hb d_Mod_search_186 (by decide) ?_
                          exact J _ _ (by subst ef_42; simp only [if_neg c_41, if_pos c_43]) (lv_sub hl [0, 1, 2, 3, 4, 5, 6, 7] rfl)
                        · skip
                          refine lv_iconst (v := 1) hx hb d_Mod_search_182 (by decide) ?_
                          refine lv_goto (tgt := 187) hx hb d_Mod_search_183 (by decide) ?_
                          exact J _ _ (by subst ef_42; simp only [if_neg c_41, if_neg c_43]) (lv_sub hl [0, 1, 2, 3, 4, 5, 6, 7] rfl)
                  · skip
                    refine lv_iload_n hx hb d_Mod_search_155 rfl (lv_at hl 7 rfl) ?_
                    refine lv_if_eq (tgt := 163) hx hb d_Mod_search_156 (by decide) (fun c_37 => ?_) (fun c_37 => ?_)
                    · skip
                      refine lv_iconst (v := 1) hx hb d_Mod_search_163 (by decide) ?_
                      exact J _ _ (by simp only [if_pos c_37]) (lv_sub hl [0, 1, 2, 3, 4, 5, 6, 7] rfl)
                    · exact absurd c_19 c_37
                · skip
                  refine lv_aload_n hx hb d_Mod_search_142 rfl (lv_at hl 4 rfl) ?_
                  refine lv_iconst (v := 0) hx hb d_Mod_search_143 (by decide) ?_
                  refine va_put (D := D) (ci := 4) (v := .int 0) (ty := .boolean) (C := R_Mod) (T := T_Mod) (N := 29) hx hb hts i_Mod t_Mod t_Mod_ok n_Mod hown hK hP hD hS 0 rfl rfl 17 (by decide) (hts _ mb_540) (fun _ h9 => h9) rfl (by decide +kernel) rfl rfl (Nat.le_of_ble_eq_true rfl) d_Mod_search_144 (fun H locs hP hD hS => ?_)
                  have hP : va_P D cls [(a, .inr (4, [.int (T_17 0 0), .int (T_17 0 1), .ref (d 1), .ref (d 2), .ref (d 3), .ref (d 4), .ref (d 5), .ref (d 6), .int (T_17 0 2), .int (T_17 0 3), .int (T_17 0 4), .int (T_17 0 5), .int (T_17 0 6), .int (T_17 0 7), .int (T_17 0 8), .ref (d 7), .int (T_17 0 9), .int 0, .int (T_17 0 11), .int (T_17 0 12), .ref (d 8), .ref (d 9), .ref (d 10), .ref (d 11), .ref (d 12), .ref (d 13), .int (T_17 0 13), .int (T_17 0 14), .int (T_17 0 15)])), (d 1, .inl (cA, 6, .inl (T_17 1))), (d 2, .inl (cA, 6, .inl (T_17 2))), (d 3, .inl (cA, 6, .inl (T_17 3))), (d 4, .inl (cA, 6, .inl (T_17 4))), (d 5, .inl (cA, 6, .inl (T_17 5))), (d 6, .inl (cA, 6, .inl (T_17 6))), (d 7, .inl (cA, 36, .inl (T_17 7))), (d 8, .inl (cA, 6, .inl (T_17 8))), (d 9, .inl (cA, 7, .inl (T_17 9))), (d 10, .inl (cA, 6, .inl (T_17 10))), (d 11, .inl (cA, 6, .inl (T_17 11))), (d 12, .inl (cA, 6, .inl (T_17 12))), (d 13, .inl (cZ, 6, .inl (T_17 13)))] H := hP
                  have hD : va_D A [(a, .inr (4, [.int (T_17 0 0), .int (T_17 0 1), .ref (d 1), .ref (d 2), .ref (d 3), .ref (d 4), .ref (d 5), .ref (d 6), .int (T_17 0 2), .int (T_17 0 3), .int (T_17 0 4), .int (T_17 0 5), .int (T_17 0 6), .int (T_17 0 7), .int (T_17 0 8), .ref (d 7), .int (T_17 0 9), .int 0, .int (T_17 0 11), .int (T_17 0 12), .ref (d 8), .ref (d 9), .ref (d 10), .ref (d 11), .ref (d 12), .ref (d 13), .int (T_17 0 13), .int (T_17 0 14), .int (T_17 0 15)])), (d 1, .inl (cA, 6, .inl (T_17 1))), (d 2, .inl (cA, 6, .inl (T_17 2))), (d 3, .inl (cA, 6, .inl (T_17 3))), (d 4, .inl (cA, 6, .inl (T_17 4))), (d 5, .inl (cA, 6, .inl (T_17 5))), (d 6, .inl (cA, 6, .inl (T_17 6))), (d 7, .inl (cA, 36, .inl (T_17 7))), (d 8, .inl (cA, 6, .inl (T_17 8))), (d 9, .inl (cA, 7, .inl (T_17 9))), (d 10, .inl (cA, 6, .inl (T_17 10))), (d 11, .inl (cA, 6, .inl (T_17 11))), (d 12, .inl (cA, 6, .inl (T_17 12))), (d 13, .inl (cZ, 6, .inl (T_17 13)))] := hD
                  refine lv_iload hx hb d_Mod_search_147 (lv_at hl 1 rfl) ?_
                  have e9 : q_Mod_search q v g i (n + 1) k h j M = some (h, (tb [(tv [T_17 0 0, T_17 0 1, T_17 0 2, T_17 0 3, T_17 0 4, T_17 0 5, T_17 0 6, T_17 0 7, T_17 0 8, T_17 0 9, 0, T_17 0 11, T_17 0 12, T_17 0 13, T_17 0 14, T_17 0 15]), T_17 1, T_17 2, T_17 3, T_17 4, T_17 5, T_17 6, T_17 7, T_17 8, T_17 9, T_17 10, T_17 11, T_17 12, T_17 13])) := by
                    subst ef_2 ef_3 eT_4 ef_5 ef_6 ef_8 ef_9 ef_10 ef_11 ef_13 ef_15 ef_16 eT_17; rw [q_Mod_search]; simp only [if_neg c_1, if_neg c_7, if_pos c_12, if_pos c_14, if_neg c_18, if_pos c_19, if_pos c_36]
                  have e8 := Option.some.inj (hres.symm.trans e9)
                  exact W.zret (v := h) hx hb hr (bool_nar (by exact hi.2)) (fun t ht hW => ⟨⟨_, (), rfl, (by rw [e8]), (by rw [e8, ht]; try dsimp only; exact hP.sub [0, 1, 2, 3, 4, 5, 6, 7, 8, 9, 10, 11, 12, 13] rfl), (by rw [e8]; try dsimp only; exact hD.sub [0, 1, 2, 3, 4, 5, 6, 7, 8, 9, 10, 11, 12, 13] (by decide) rfl)⟩, hS.F ht⟩) hS.2.2 d_Mod_search_149
      · skip
        have sP := sI.1 (by rw [← ef_5, ← ef_6]; exact c_7)
        obtain ⟨x_54, ex_54⟩ : ∃ y : Int32, y = k + (-1) := ⟨_, rfl⟩
        refine lv_iinc (v := x_54) (lv' := [(7, .int x_54), (5, .int h), (6, .int j), (4, .int i), (0, .ref a), (1, .int q), (2, .int v), (3, .int g)]) hx hb d_Mod_search_87 hl (k := 0) rfl (by rw [ex_54]; rfl) (by decide) rfl (fun ls hl => ?_)
        refine lv_goto (tgt := 55) hx hb d_Mod_search_90 (by decide) ?_
        have e9 : q_Mod_search q v g i (n + 1) k h j M = q_Mod_search q v g i n x_54 h j T_4 := by
          subst ef_2 ef_3 eT_4 ef_5 ef_6 ex_54; rw [q_Mod_search]; simp only [if_neg c_1, if_pos c_7]
        rw [e9] at hres
        exact ih x_54 h j T_4 ⟨(by rw [ex_54]; exact sP), hi.2⟩ res hres _ _ (hP.sub [0, 1, 2, 3, 4, 5, 6, 7, 8, 9, 10, 11, 12, 13] rfl) (hD.sub [0, 1, 2, 3, 4, 5, 6, 7, 8, 9, 10, 11, 12, 13] (by decide) rfl) hS _ (lv_sub hl [0, 1, 2, 3, 4, 5, 6, 7] rfl)
def r_Mod_search (N : Nat) (M : Nat → Nat → Int32) (q v g : Int32) : Option (Int32 × (Nat → Nat → Int32)) := let f_1 : Int32 := (b_Mod_search_6 M q 8 0 0); if f_1 = 0 then (some (1, (tb [M 0, M 1, M 2, M 3, M 4, M 5, M 6, M 7, M 8, upd (M 9) (0 : Int32).toNatClampNeg (-1), M 10, M 11, M 12, M 13]))) else (q_Mod_search q v g f_1 N 0 0 0 (tb [M 0, M 1, M 2, M 3, M 4, M 5, M 6, M 7, M 8, upd (M 9) (0 : Int32).toNatClampNeg (-1), M 10, M 11, M 12, M 13]))
set_option maxHeartbeats 4000000 in
set_option maxRecDepth 100000 in
theorem k_Mod_search (l : Launch) (D : va_G) (cA cZ cL : ClassId) (a : Nat) (d : Nat → Nat) (N : Nat) (M : Nat → Nat → Int32) (q v g : Int32) (hN : ∃ n : Nat, n ≤ 6 ∧ M 0 1 = nI n) (hG : ∀ j, vp_in (M 1 j) 6) (res : Int32 × (Nat → Nat → Int32)) (hres : r_Mod_search N M q v g = some res) : MetI l y_Mod_search (Cond.code y_Mod_search c_Mod_search 10 (some .boolean) :: base) ({ frames := 2, cells := 0, slots := 0, locals := 54 } : Room) D cls (tys3 cA cZ cL) ([.ref a, .int q, .int v, .int g]) (wMod cA cZ a d M) res.1 (wMod cA cZ a d res.2) := by
  intro sz
  refine Met.ofW (cc := c_Mod_search) (maxL := 10) (ret := (some .boolean)) (by decide) rfl ?_
  intro p e s m args below meth c s₁ B hml hv
  obtain ⟨rfl, hsz, hP, hK, hZ, hD0⟩ := hv
  have hx := B.exec
  have hb := B.bytes
  have hr := B.returns
  have hts0 := atoms_spec (ws := (Cond.code y_Mod_search c_Mod_search 10 (some .boolean) :: base)) B.pre
  have hts : ∀ w ∈ base, w.before _ s = true := fun w h => hts0 w (List.mem_cons_of_mem _ h)
  have hown : s.vm.findClass R_Mod = some m.cls := findClass_of_methodNamed B.named
  have hlocks := B.notSynchronized
  have hP : va_P D cls [(a, .inr (4, [.int (M 0 0), .int (M 0 1), .ref (d 1), .ref (d 2), .ref (d 3), .ref (d 4), .ref (d 5), .ref (d 6), .int (M 0 2), .int (M 0 3), .int (M 0 4), .int (M 0 5), .int (M 0 6), .int (M 0 7), .int (M 0 8), .ref (d 7), .int (M 0 9), .int (M 0 10), .int (M 0 11), .int (M 0 12), .ref (d 8), .ref (d 9), .ref (d 10), .ref (d 11), .ref (d 12), .ref (d 13), .int (M 0 13), .int (M 0 14), .int (M 0 15)])), (d 1, .inl (cA, 6, .inl (M 1))), (d 2, .inl (cA, 6, .inl (M 2))), (d 3, .inl (cA, 6, .inl (M 3))), (d 4, .inl (cA, 6, .inl (M 4))), (d 5, .inl (cA, 6, .inl (M 5))), (d 6, .inl (cA, 6, .inl (M 6))), (d 7, .inl (cA, 36, .inl (M 7))), (d 8, .inl (cA, 6, .inl (M 8))), (d 9, .inl (cA, 7, .inl (M 9))), (d 10, .inl (cA, 6, .inl (M 10))), (d 11, .inl (cA, 6, .inl (M 11))), (d 12, .inl (cA, 6, .inl (M 12))), (d 13, .inl (cZ, 6, .inl (M 13)))] s.heap := hP
  subst hsz
  have hD := hD0.self (sz := s.heap.size)
  generalize hAe : va_A (wMod cA cZ a d M) s.heap.size = A at hD ⊢
  have hA : ∀ q : Nat, s.heap.size ≤ q → A q := fun q h => by rw [← hAe]; exact Or.inr h
  have hS : va_S A s.heap s.heap [] := va_S.rf
  have hD : va_D A [(a, .inr (4, [.int (M 0 0), .int (M 0 1), .ref (d 1), .ref (d 2), .ref (d 3), .ref (d 4), .ref (d 5), .ref (d 6), .int (M 0 2), .int (M 0 3), .int (M 0 4), .int (M 0 5), .int (M 0 6), .int (M 0 7), .int (M 0 8), .ref (d 7), .int (M 0 9), .int (M 0 10), .int (M 0 11), .int (M 0 12), .ref (d 8), .ref (d 9), .ref (d 10), .ref (d 11), .ref (d 12), .ref (d 13), .int (M 0 13), .int (M 0 14), .int (M 0 15)])), (d 1, .inl (cA, 6, .inl (M 1))), (d 2, .inl (cA, 6, .inl (M 2))), (d 3, .inl (cA, 6, .inl (M 3))), (d 4, .inl (cA, 6, .inl (M 4))), (d 5, .inl (cA, 6, .inl (M 5))), (d 6, .inl (cA, 6, .inl (M 6))), (d 7, .inl (cA, 36, .inl (M 7))), (d 8, .inl (cA, 6, .inl (M 8))), (d 9, .inl (cA, 7, .inl (M 9))), (d 10, .inl (cA, 6, .inl (M 10))), (d 11, .inl (cA, 6, .inl (M 11))), (d 12, .inl (cA, 6, .inl (M 12))), (d 13, .inl (cZ, 6, .inl (M 13)))] := hD
  have hl := lv_entry ([.ref a, .int q, .int v, .int g]) (n := 10) (Nat.le_of_ble_eq_true rfl)
  rw [lg_entry_eq]
  generalize (lg_sl ([.ref a, .int q, .int v, .int g]) ++ List.replicate (10 - (lg_sl ([.ref a, .int q, .int v, .int g])).length) Slot.unset).toArray = ls at hl ⊢
  have hl : lv_has ls 10 [(0, .ref a), (1, .int q), (2, .int v), (3, .int g)] := hl
  refine lv_iconst (v := 0) hx hb d_Mod_search_0 (by decide) ?_
  refine lv_istore (lv' := [(4, .int 0), (0, .ref a), (1, .int q), (2, .int v), (3, .int g)]) hx hb d_Mod_search_1 hl (by decide) rfl (fun ls hl => ?_)
  refine lv_iconst (v := 0) hx hb d_Mod_search_3 (by decide) ?_
  refine lv_istore (lv' := [(5, .int 0), (4, .int 0), (0, .ref a), (1, .int q), (2, .int v), (3, .int g)]) hx hb d_Mod_search_4 hl (by decide) rfl (fun ls hl => ?_)
  refine lb_Mod_search_6 hx hb hts hown hK hN (hP.sub (ws' := wMod cA cZ a d M) [0, 1, 2, 3, 4, 5, 6, 7, 8, 9, 10, 11, 12, 13] rfl) 8 0 0 (by decide) (fun f_1 ls ef_1 hE_2 hl => ?_) _ (lv_sub hl [0, 1, 2, 3, 4, 5] rfl)
  refine lv_iconst (v := 0) hx hb d_Mod_search_32 (by decide) ?_
  refine lv_istore (lv' := [(5, .int 0), (4, .int f_1), (0, .ref a), (1, .int q), (2, .int v), (3, .int g)]) hx hb d_Mod_search_33 hl (by decide) rfl (fun ls hl => ?_)
  refine lv_iconst (v := 0) hx hb d_Mod_search_35 (by decide) ?_
  refine lv_istore (lv' := [(6, .int 0), (5, .int 0), (4, .int f_1), (0, .ref a), (1, .int q), (2, .int v), (3, .int g)]) hx hb d_Mod_search_36 hl (by decide) rfl (fun ls hl => ?_)
  refine lv_iconst (v := 0) hx hb d_Mod_search_38 (by decide) ?_
  refine lv_istore (lv' := [(7, .int 0), (6, .int 0), (5, .int 0), (4, .int f_1), (0, .ref a), (1, .int q), (2, .int v), (3, .int g)]) hx hb d_Mod_search_39 hl (by decide) rfl (fun ls hl => ?_)
  refine lv_aload_n hx hb d_Mod_search_41 rfl (lv_at hl 4 rfl) ?_
  refine va_get (D := D) (ci := 4) (v := .ref (d 9)) (C := R_Mod) (T := T_Mod) (N := 29) hx hb hts i_Mod hown hK hP 0 rfl rfl 21 (by decide) (hts _ mb_544) (fun _ h9 => h9) rfl d_Mod_search_42 ?_
  refine lv_iconst (v := 0) hx hb d_Mod_search_45 (by decide) ?_
  refine lv_iconst (v := (-1)) hx hb d_Mod_search_46 (by decide) ?_
  refine va_iast hx hb hK hP hD hS 9 0 rfl rfl (by rw [vp_in_iff]; decide) d_Mod_search_47 (fun H locs hP hD hS => ?_)
  have hP : va_P D cls [(a, .inr (4, [.int (M 0 0), .int (M 0 1), .ref (d 1), .ref (d 2), .ref (d 3), .ref (d 4), .ref (d 5), .ref (d 6), .int (M 0 2), .int (M 0 3), .int (M 0 4), .int (M 0 5), .int (M 0 6), .int (M 0 7), .int (M 0 8), .ref (d 7), .int (M 0 9), .int (M 0 10), .int (M 0 11), .int (M 0 12), .ref (d 8), .ref (d 9), .ref (d 10), .ref (d 11), .ref (d 12), .ref (d 13), .int (M 0 13), .int (M 0 14), .int (M 0 15)])), (d 1, .inl (cA, 6, .inl (M 1))), (d 2, .inl (cA, 6, .inl (M 2))), (d 3, .inl (cA, 6, .inl (M 3))), (d 4, .inl (cA, 6, .inl (M 4))), (d 5, .inl (cA, 6, .inl (M 5))), (d 6, .inl (cA, 6, .inl (M 6))), (d 7, .inl (cA, 36, .inl (M 7))), (d 8, .inl (cA, 6, .inl (M 8))), (d 9, .inl (cA, 7, .inl (upd (M 9) (0 : Int32).toNatClampNeg (-1)))), (d 10, .inl (cA, 6, .inl (M 10))), (d 11, .inl (cA, 6, .inl (M 11))), (d 12, .inl (cA, 6, .inl (M 12))), (d 13, .inl (cZ, 6, .inl (M 13)))] H := hP
  have hD : va_D A [(a, .inr (4, [.int (M 0 0), .int (M 0 1), .ref (d 1), .ref (d 2), .ref (d 3), .ref (d 4), .ref (d 5), .ref (d 6), .int (M 0 2), .int (M 0 3), .int (M 0 4), .int (M 0 5), .int (M 0 6), .int (M 0 7), .int (M 0 8), .ref (d 7), .int (M 0 9), .int (M 0 10), .int (M 0 11), .int (M 0 12), .ref (d 8), .ref (d 9), .ref (d 10), .ref (d 11), .ref (d 12), .ref (d 13), .int (M 0 13), .int (M 0 14), .int (M 0 15)])), (d 1, .inl (cA, 6, .inl (M 1))), (d 2, .inl (cA, 6, .inl (M 2))), (d 3, .inl (cA, 6, .inl (M 3))), (d 4, .inl (cA, 6, .inl (M 4))), (d 5, .inl (cA, 6, .inl (M 5))), (d 6, .inl (cA, 6, .inl (M 6))), (d 7, .inl (cA, 36, .inl (M 7))), (d 8, .inl (cA, 6, .inl (M 8))), (d 9, .inl (cA, 7, .inl (upd (M 9) (0 : Int32).toNatClampNeg (-1)))), (d 10, .inl (cA, 6, .inl (M 10))), (d 11, .inl (cA, 6, .inl (M 11))), (d 12, .inl (cA, 6, .inl (M 12))), (d 13, .inl (cZ, 6, .inl (M 13)))] := hD
  refine lv_iload hx hb d_Mod_search_48 (lv_at hl 3 rfl) ?_
  refine lv_if_ne (tgt := 55) hx hb d_Mod_search_50 (by decide) (fun c_3 => ?_) (fun c_3 => ?_)
  · skip
    have e9 : r_Mod_search N M q v g = q_Mod_search q v g f_1 N 0 0 0 (tb [M 0, M 1, M 2, M 3, M 4, M 5, M 6, M 7, M 8, upd (M 9) (0 : Int32).toNatClampNeg (-1), M 10, M 11, M 12, M 13]) := by
      subst ef_1; unfold r_Mod_search; simp only [if_neg c_3]
    rw [e9] at hres
    exact (lp_Mod_search a d q v g f_1 hE_2.2 hx hb hr hml hts hown hlocks hK hZ hA N) 0 0 0 (tb [M 0, M 1, M 2, M 3, M 4, M 5, M 6, M 7, M 8, upd (M 9) (0 : Int32).toNatClampNeg (-1), M 10, M 11, M 12, M 13]) ⟨S_0 hN hG c_3 hE_2.1 rfl rfl rfl, Or.inl rfl⟩ res hres _ _ (hP.sub [0, 1, 2, 3, 4, 5, 6, 7, 8, 9, 10, 11, 12, 13] rfl) (hD.sub [0, 1, 2, 3, 4, 5, 6, 7, 8, 9, 10, 11, 12, 13] (by decide) rfl) hS _ (lv_sub hl [0, 2, 1, 3, 4, 5, 6, 7] rfl)
  · skip
    refine lv_iconst (v := 1) hx hb d_Mod_search_53 (by decide) ?_
    have e9 : r_Mod_search N M q v g = some (1, (tb [M 0, M 1, M 2, M 3, M 4, M 5, M 6, M 7, M 8, upd (M 9) (0 : Int32).toNatClampNeg (-1), M 10, M 11, M 12, M 13])) := by
      subst ef_1; unfold r_Mod_search; simp only [if_pos c_3]
    have e8 := Option.some.inj (hres.symm.trans e9)
    exact W.zret (v := 1) hx hb hr rfl (fun t ht hW => ⟨⟨_, (), rfl, (by rw [e8]), (by rw [e8, ht]; try dsimp only; exact hP.sub [0, 1, 2, 3, 4, 5, 6, 7, 8, 9, 10, 11, 12, 13] rfl), (by rw [e8]; try dsimp only; exact hD.sub [0, 1, 2, 3, 4, 5, 6, 7, 8, 9, 10, 11, 12, 13] (by decide) rfl)⟩, hS.F ht⟩) hS.2.2 d_Mod_search_54
