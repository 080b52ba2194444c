theorem bit_L : ∀ L, L < 64 → ∀ h, h < 6 → (nI L >>> (nI h &&& 31)) &&& 1 = nI (L / 2 ^ h % 2) := by decide +kernel
theorem clr_L : ∀ L, L < 64 → ∀ h, h < 6 → L / 2 ^ h % 2 = 1 → nI L &&& ((1 <<< (nI h &&& 31)) ^^^ (-1)) = nI (L - 2 ^ h) := by decide +kernel
theorem clr_b : ∀ L, L < 64 → ∀ h, h < 6 → L / 2 ^ h % 2 = 1 → ∀ j, j < 6 → (L - 2 ^ h) / 2 ^ j % 2 = if j = h then 0 else L / 2 ^ j % 2 := by decide +kernel
def c6 (L : Nat) : Nat := L % 2 + L / 2 % 2 + L / 4 % 2 + L / 8 % 2 + L / 16 % 2 + L / 32 % 2
theorem clr_c : ∀ L, L < 64 → ∀ h, h < 6 → L / 2 ^ h % 2 = 1 → c6 (L - 2 ^ h) + 1 = c6 L := by decide +kernel
theorem c6_0 : ∀ L, L < 64 → (c6 L = 0 ↔ L = 0) := by decide +kernel
theorem c6_cb : ∀ n, n ≤ 6 → ∀ L, L < 2 ^ n → cb (nI L) n = c6 L := by decide +kernel
theorem or_hc : ∀ h, h < 8 → ∀ c, c < 2 → nI h ||| (nI c <<< ((3 : Int32) &&& 31)) = nI (h + 8 * c) := by decide +kernel
/-! the steps in one int -/
def cd (x : Int32) : Nat := x.toNatClampNeg / 2 + 8 * (x.toNatClampNeg % 2)
def enc (cs : Nat → Int32) : Nat → Nat
  | 0 => 0
  | k + 1 => enc cs k + cd (cs k) * 16 ^ k
theorem cd_lt {x : Int32} (h : x.toNatClampNeg < 12) : cd x < 16 := by unfold cd; omega
theorem enc_lt {cs : Nat → Int32} : ∀ k, (∀ p, p < k → (cs p).toNatClampNeg < 12) → enc cs k < 16 ^ k := by
  intro k
  induction k with
  | zero => intro _; exact Nat.zero_lt_one
  | succ k ih =>
    intro h
    have h1 := ih (fun p hp => h p (by omega))
    have h2 := cd_lt (h k (by omega))
    rw [enc, Nat.pow_succ]
    have h3 : cd (cs k) * 16 ^ k ≤ 15 * 16 ^ k := Nat.mul_le_mul_right _ (by omega)
    omega
theorem enc_c {cs cs' : Nat → Int32} : ∀ k, (∀ p, p < k → cs' p = cs p) → enc cs' k = enc cs k := by
  intro k
  induction k with
  | zero => intro _; rfl
  | succ k ih =>
    intro h
    rw [enc, enc, ih (fun p hp => h p (by omega)), h k (by omega)]
theorem enc_dig {cs : Nat → Int32} : ∀ k, (∀ p, p < k → (cs p).toNatClampNeg < 12) → ∀ p, p < k → enc cs k / 16 ^ p % 16 = cd (cs p) := by
  intro k
  induction k with
  | zero => intro _ p hp; omega
  | succ k ih =>
    intro h p hp
    have h1 := enc_lt k (fun p hp => h p (by omega))
    have hpos : 0 < 16 ^ p := Nat.pow_pos (by decide)
    rw [enc]
    by_cases hpk : p = k
    · subst hpk
      rw [Nat.add_mul_div_right _ _ hpos, Nat.div_eq_of_lt h1, Nat.zero_add, Nat.mod_eq_of_lt (cd_lt (h p hp))]
    · obtain ⟨e, he⟩ : ∃ e, k = p + (e + 1) := ⟨k - p - 1, by omega⟩
      have e1 : cd (cs k) * 16 ^ k = (cd (cs k) * 16 ^ e * 16) * 16 ^ p := by
        have e2 : 16 ^ k = 16 ^ e * 16 * 16 ^ p := by
          rw [he, Nat.pow_add, Nat.pow_succ, Nat.mul_comm]
        rw [e2, ← Nat.mul_assoc, ← Nat.mul_assoc]
      rw [e1, Nat.add_mul_div_right _ _ hpos, Nat.add_mul_mod_self_right]
      exact ih (fun p hp => h p (by omega)) p (by omega)
theorem p16 (k : Nat) : 2 ^ (4 * k) = 16 ^ k := by rw [Nat.pow_mul]
theorem sm4 : ∀ k, k < 6 → ((4 * nI k &&& 31).toBitVec.smod 32).toNat = 4 * k := by decide +kernel
theorem sm43 : ∀ k, k < 6 → ((4 * nI k + 3 &&& 31).toBitVec.smod 32).toNat = 4 * k + 3 := by decide +kernel
theorem p166 {k : Nat} (hk : k ≤ 6) : 16 ^ k ≤ 2 ^ 24 := Nat.le_trans (Nat.pow_le_pow_right (by decide) hk) (by decide)
theorem hd_enc {cs : Nat → Int32} {k : Nat} (hk : k ≤ 6) (h : ∀ p, p < k → (cs p).toNatClampNeg < 12) {p : Nat} (hp : p < k) : r_Ord_heatOf (nI (enc cs k)) (nI p) = nI ((cs p).toNatClampNeg / 2) ∧ r_Ord_casterOf (nI (enc cs k)) (nI p) = nI ((cs p).toNatClampNeg % 2) := by
  have h1 := enc_lt k h
  have h2 := p166 hk
  have h3 := enc_dig k h p hp
  have h4 := h p hp
  have hle : enc cs k / 16 ^ p ≤ enc cs k := Nat.div_le_self _ _
  constructor
  · show (nI (enc cs k) >>> (4 * nI p &&& 31)) &&& 7 = _
    rw [pk_shrN (by omega) _ (4 * p) (sm4 p (by omega)), p16, pk_andN (by omega) 3 rfl]
    congr 1
    have : enc cs k / 16 ^ p % 2 ^ 3 = enc cs k / 16 ^ p % 16 % 8 := by omega
    rw [this, h3]
    unfold cd
    omega
  · show (nI (enc cs k) >>> (4 * nI p + 3 &&& 31)) &&& 1 = _
    rw [pk_shrN (by omega) _ (4 * p + 3) (sm43 p (by omega)), Nat.pow_add, p16, ← Nat.div_div_eq_div_mul, pk_andN (by have := Nat.div_le_self (enc cs k / 16 ^ p) (2 ^ 3); omega) 1 rfl]
    congr 1
    have : enc cs k / 16 ^ p / 2 ^ 3 % 2 ^ 1 = enc cs k / 16 ^ p % 16 / 8 := by omega
    rw [this, h3]
    unfold cd
    omega
theorem or_add {a b k : Nat} (hb : b < 2 ^ k) (h : a * 2 ^ k + b < 2 ^ 31) : nI b ||| nI (a * 2 ^ k) = nI (b + a * 2 ^ k) := by
  apply Int32.toBitVec_inj.mp
  apply BitVec.eq_of_toNat_eq
  rw [Int32.toBitVec_or, BitVec.toNat_or, pk_tn (by omega), pk_tn (by omega), pk_tn (by omega), Nat.or_comm, Nat.add_comm, ← Nat.shiftLeft_eq, Nat.shiftLeft_add_eq_or_of_lt hb]
theorem with_enc {V k h c : Nat} (hk : k < 6) (hV : V < 16 ^ k) (hh : h < 8) (hc : c < 2) : r_Ord_withStep (nI V) (nI k) (nI h) (nI c) = nI (V + (h + 8 * c) * 16 ^ k) := by
  show nI V ||| ((nI h ||| (nI c <<< ((3 : Int32) &&& 31))) <<< (4 * nI k &&& 31)) = _
  have h2 : 16 ^ k ≤ 2 ^ 20 := Nat.le_trans (Nat.pow_le_pow_right (by decide) (by omega : k ≤ 5)) (by decide)
  have h3 : (h + 8 * c) * 16 ^ k ≤ 15 * 2 ^ 20 := Nat.mul_le_mul (by omega) h2
  rw [or_hc h hh c hc, pk_shlN _ (4 * k) (sm4 k hk) (by rw [p16]; omega), ← p16]
  refine or_add (by rw [p16]; exact hV) ?_
  rw [p16]; omega
