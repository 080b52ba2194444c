/-! what the mathematics owed to the law -/
theorem init_SM : SM r_Shop_init r_Mod_init := by
  refine ⟨⟨rfl, rfl, rfl, rfl, rfl, rfl, rfl, rfl⟩, rfl, rfl, rfl, rfl, rfl, rfl, ?_⟩
  decide +kernel
theorem init_SB : SB r_Shop_init := by
  refine ⟨⟨0, by omega, rfl⟩, fun j => ?_, fun j => ?_, fun j => ?_, fun j => ?_, fun j => ?_, ?_, ?_⟩
  · show vp_in 0 6
    rw [vp_in_iff]; decide
  · show 0 ≤ (0 : Int32).toInt ∧ (0 : Int32).toInt ≤ 2000
    decide
  · show 0 ≤ (0 : Int32).toInt ∧ (0 : Int32).toInt ≤ 500
    decide
  · show 0 ≤ (0 : Int32).toInt ∧ (0 : Int32).toInt ≤ 500
    decide
  · show 0 ≤ (0 : Int32).toInt ∧ (0 : Int32).toInt ≤ 10000
    decide
  · decide +kernel
  · decide +kernel
theorem init_Rel : Rel (tv [0, 0], tv [0, 0, 0, 0, 0, 0], r_Plan_init, r_Plan_init, r_Shop_init) r_Mod_init := by
  refine ⟨init_SM, init_SB, ⟨⟨rfl, rfl, rfl⟩, ⟨rfl, rfl, rfl⟩⟩, ⟨fun j => ?_, fun j => ?_⟩, ⟨rfl, rfl⟩, fun a => absurd rfl a, fun j _ => ?_, fun a => absurd rfl a⟩
  · show vp_in 0 6
    rw [vp_in_iff]; decide
  · show vp_in 0 6
    rw [vp_in_iff]; decide
  · show vp_in 0 12
    rw [vp_in_iff]; decide
theorem law_facts : LawFacts sN Rel := by
  refine ⟨sok, init_Rel, fun C M hR => ?_, fun C M z v0 v1 v2 v3 v4 v5 hR => mt_heat C M z v0 v1 v2 v3 v4 v5 hR, fun C M v0 v1 hR => mt_due C M v0 v1 hR, fun C M v0 v1 v2 v3 v4 hR => mt_rules C M v0 v1 v2 v3 v4 hR, fun C M v0 v1 hR => mt_costs C M v0 v1 hR, fun C M v0 v1 v2 hR => mt_move C M v0 v1 v2 hR, fun C M z v0 hR => mt_run C M z v0 hR, fun C M z v0 hR => mt_planned C M z v0 hR, fun C M z v0 v1 hR => mt_step C M z v0 v1 hR, fun C M z v0 hR => mt_told C M z v0 hR, fun C M z v0 v1 hR => mt_tell C M z v0 v1 hR, fun C M hR => mt_bound C M hR, fun C M hR => mt_clash C M hR⟩
  obtain ⟨r1, r2, r3, r4, r5, r6, r7, r8⟩ := hR
  obtain ⟨n, hn, hN⟩ := id r2.1
  have hNM : M 0 1 = nI n := r1.1.1.symm.trans hN
  refine ⟨r2.2.1, r2.1, r4.1, r4.2, ⟨n, hn, hNM⟩, fun j => ?_, fun j hj => r7 j ?_⟩
  · rw [← r1.2.1]; exact r2.2.1 j
  · rw [hNM, nI_toInt (by omega)] at hj
    omega
