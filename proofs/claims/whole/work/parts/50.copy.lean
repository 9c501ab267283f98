-- ===== a state as it lies b cells behind the first 
def shS (σ : am_S) (b : Nat) : am_S := (fun k j => σ.1 (k + b) j, fun k j => σ.2 (k + b) j)
theorem shS_0 {σ : am_S} : shS σ 0 = σ := rfl
/-- the same in all that a state has -/
def SameS (σ σ' : am_S) : Prop := (σ'.1 2 3 = σ.1 2 3 ∧ σ'.1 2 4 = σ.1 2 4) ∧ (σ'.1 3 0 = σ.1 3 0 ∧ σ'.1 3 1 = σ.1 3 1 ∧ ∀ i, i < 8 → σ'.1 4 i = σ.1 4 i ∧ σ'.1 5 i = σ.1 5 i) ∧ (∀ t, t < 301 → σ'.1 6 t = σ.1 6 t) ∧ (σ'.1 7 0 = σ.1 7 0 ∧ ∀ k, k < 20 → σ'.1 8 k = σ.1 8 k ∧ σ'.1 9 k = σ.1 9 k ∧ σ'.1 10 k = σ.1 10 k ∧ σ'.1 11 k = σ.1 11 k) ∧ (∀ j, j < 100 → σ'.2 12 j = σ.2 12 j) ∧ ∀ a, a < 4 → σ'.1 14 a = σ.1 14 a ∧ σ'.1 15 a = σ.1 15 a ∧ σ'.1 16 a = σ.1 16 a ∧ σ'.1 17 a = σ.1 17 a ∧ σ'.1 18 a = σ.1 18 a
theorem CS.same {σ σ' : am_S} {X : Row} (h : SameS σ σ') (hT : WT X) (hC : CS σ X) : CS σ' X := by
  obtain ⟨⟨s1, s2⟩, ⟨s3, s4, s5⟩, s6, ⟨s7, s8⟩, s9, s10⟩ := h
  obtain ⟨⟨b1, b2, b3, b4, b5, b6, b7⟩, c2, c3, c4, c5, c6, c7⟩ := hC
  have hm := hT.1
  refine ⟨⟨s3.trans b1, by rw [s4]; exact b2, fun i hi => ?_, fun i hi => ?_, fun i j hij hj => ?_, fun i hi => ?_, fun t t1 t2 t3 => ?_⟩, fun t ht => ?_, ⟨s7.trans c3.1, fun k hk => ?_⟩, fun a ha => ?_, SN.eq s9 hT c5, s1.trans c6, s2.trans c7⟩
  · rw [(s5 i hi).1, (s5 i hi).2]; exact b3 i hi
  · rw [s4] at hi
    rw [(s5 i (by omega)).1]; exact b4 i hi
  · rw [s4] at hj
    rw [(s5 i (by omega)).1, (s5 j (by omega)).1]; exact b5 i j hij hj
  · rw [s4] at hi
    rw [(s5 i (by omega)).1, (s5 i (by omega)).2]; exact b6 i hi
  · obtain ⟨i, h1, h2⟩ := b7 t t1 t2 t3
    refine ⟨i, by rw [s4]; exact h1, ?_⟩
    rw [(s5 i (by omega)).1]; exact h2
  · rw [s6 t (by omega)]; exact c2 t ht
  · obtain ⟨g1, g2, g3, g4⟩ := s8 k (by omega)
    rw [g1, g2, g3, g4]; exact c3.2 k hk
  · obtain ⟨g1, g2, g3, g4, g5⟩ := s10 a ha
    rw [g1, g2, g3, g4, g5]; exact c4 a ha
def cpA (σ : am_S) (d s : Nat) : am_S := am_cp (am_cp (am_cp (am_cp (am_cp σ (s + 1) (d + 1) 0 0 4) (s + 2) (d + 2) 0 0 4) (s + 3) (d + 3) 0 0 4) (s + 4) (d + 4) 0 0 4) (s + 5) (d + 5) 0 0 4
def cpB0 (σ : am_S) (d s : Nat) : am_S := am_up (am_up σ d 0 (σ.1 s 0)) d 1 ((am_up σ d 0 (σ.1 s 0)).1 s 1)
def cpB (σ : am_S) (d s : Nat) : am_S := am_cp (am_cp (am_cp (cpB0 σ d s) (s + 1) (d + 1) 0 0 8) (s + 2) (d + 2) 0 0 8) (s + 3) (d + 3) 0 0 301
def cpT0 (σ : am_S) (d s : Nat) : am_S := am_cp (am_cp (am_cp (am_cp (am_up σ d 0 (σ.1 s 0)) (s + 1) (d + 1) 0 0 20) (s + 2) (d + 2) 0 0 20) (s + 3) (d + 3) 0 0 20) (s + 4) (d + 4) 0 0 20
def cpT (σ : am_S) (d s : Nat) : am_S := am_cpL (cpT0 σ d s) (s + 5) (d + 5) 0 0 100
def cpS0 (σ : am_S) (d s : Nat) : am_S := cpA (cpT (cpB σ (d + 1) (s + 1)) (d + 5) (s + 5)) (d + 11) (s + 11)
def cpS (σ : am_S) (d s : Nat) : am_S := am_up (am_up (cpS0 σ d s) d 3 ((cpS0 σ d s).1 s 3)) d 4 ((am_up (cpS0 σ d s) d 3 ((cpS0 σ d s).1 s 3)).1 s 4)
theorem c_cpA_19_2 {σ : am_S} : Runs am_tab mX0_copyFrom [vR 30, vR 13] σ (QV (fun σ' => σ' = cpA σ 30 13)) := by
  refine Runs.of (by decide) rfl (by simp) (Nat.le_of_ble_eq_true rfl) ?_
  show AW am_tab mX0_copyFrom 0 [some (vR 30), some (vR 13)] [] σ _
  refine AW_aload_n dX0_copyFrom_0 rfl ?_
  refine AW_get dX0_copyFrom_1 fX0_9 rfl rfl ?_
  refine AW_iconst dX0_copyFrom_4 ?_
  refine AW_aload_n dX0_copyFrom_5 rfl ?_
  refine AW_get dX0_copyFrom_6 fX0_9 rfl rfl ?_
  refine AW_iconst dX0_copyFrom_9 ?_
  refine AW_iconst dX0_copyFrom_10 ?_
  refine AW_copyi dX0_copyFrom_11 kX0_27 (Nat.le_of_ble_eq_true rfl) (by decide +kernel) (Nat.le_of_ble_eq_true rfl) rfl rfl ⟨Nat.le_of_ble_eq_true rfl, Nat.le_of_ble_eq_true rfl⟩ (by decide) ?_
  refine AW_aload_n dX0_copyFrom_14 rfl ?_
  refine AW_get dX0_copyFrom_15 fX0_15 rfl rfl ?_
  refine AW_iconst dX0_copyFrom_18 ?_
  refine AW_aload_n dX0_copyFrom_19 rfl ?_
  refine AW_get dX0_copyFrom_20 fX0_15 rfl rfl ?_
  refine AW_iconst dX0_copyFrom_23 ?_
  refine AW_iconst dX0_copyFrom_24 ?_
  refine AW_copyi dX0_copyFrom_25 kX0_27 (Nat.le_of_ble_eq_true rfl) (by decide +kernel) (Nat.le_of_ble_eq_true rfl) rfl rfl ⟨Nat.le_of_ble_eq_true rfl, Nat.le_of_ble_eq_true rfl⟩ (by decide) ?_
  refine AW_aload_n dX0_copyFrom_28 rfl ?_
  refine AW_get dX0_copyFrom_29 fX0_18 rfl rfl ?_
  refine AW_iconst dX0_copyFrom_32 ?_
  refine AW_aload_n dX0_copyFrom_33 rfl ?_
  refine AW_get dX0_copyFrom_34 fX0_18 rfl rfl ?_
  refine AW_iconst dX0_copyFrom_37 ?_
  refine AW_iconst dX0_copyFrom_38 ?_
  refine AW_copyi dX0_copyFrom_39 kX0_27 (Nat.le_of_ble_eq_true rfl) (by decide +kernel) (Nat.le_of_ble_eq_true rfl) rfl rfl ⟨Nat.le_of_ble_eq_true rfl, Nat.le_of_ble_eq_true rfl⟩ (by decide) ?_
  refine AW_aload_n dX0_copyFrom_42 rfl ?_
  refine AW_get dX0_copyFrom_43 fX0_21 rfl rfl ?_
  refine AW_iconst dX0_copyFrom_46 ?_
  refine AW_aload_n dX0_copyFrom_47 rfl ?_
  refine AW_get dX0_copyFrom_48 fX0_21 rfl rfl ?_
  refine AW_iconst dX0_copyFrom_51 ?_
  refine AW_iconst dX0_copyFrom_52 ?_
  refine AW_copyi dX0_copyFrom_53 kX0_27 (Nat.le_of_ble_eq_true rfl) (by decide +kernel) (Nat.le_of_ble_eq_true rfl) rfl rfl ⟨Nat.le_of_ble_eq_true rfl, Nat.le_of_ble_eq_true rfl⟩ (by decide) ?_
  refine AW_aload_n dX0_copyFrom_56 rfl ?_
  refine AW_get dX0_copyFrom_57 fX0_24 rfl rfl ?_
  refine AW_iconst dX0_copyFrom_60 ?_
  refine AW_aload_n dX0_copyFrom_61 rfl ?_
  refine AW_get dX0_copyFrom_62 fX0_24 rfl rfl ?_
  refine AW_iconst dX0_copyFrom_65 ?_
  refine AW_iconst dX0_copyFrom_66 ?_
  refine AW_copyi dX0_copyFrom_67 kX0_27 (Nat.le_of_ble_eq_true rfl) (by decide +kernel) (Nat.le_of_ble_eq_true rfl) rfl rfl ⟨Nat.le_of_ble_eq_true rfl, Nat.le_of_ble_eq_true rfl⟩ (by decide) ?_
  refine AW_vret dX0_copyFrom_70 rfl ?_
  exact ⟨rfl, rfl⟩
theorem c_cpB_19_2 {σ : am_S} : Runs am_tab mX1_copyFrom [vR 20, vR 3] σ (QV (fun σ' => σ' = cpB σ 20 3)) := by
  refine Runs.of (by decide) rfl (by simp) (Nat.le_of_ble_eq_true rfl) ?_
  show AW am_tab mX1_copyFrom 0 [some (vR 20), some (vR 3)] [] σ _
  refine AW_aload_n dX1_copyFrom_0 rfl ?_
  refine AW_aload_n dX1_copyFrom_1 rfl ?_
  refine AW_get dX1_copyFrom_2 fX1_9 rfl rfl ?_
  refine AW_put dX1_copyFrom_5 pX1_9 rfl rfl rfl rfl ?_
  refine AW_aload_n dX1_copyFrom_8 rfl ?_
  refine AW_aload_n dX1_copyFrom_9 rfl ?_
  refine AW_get dX1_copyFrom_10 fX1_15 rfl rfl ?_
  refine AW_put dX1_copyFrom_13 pX1_15 rfl rfl rfl rfl ?_
  refine AW_aload_n dX1_copyFrom_16 rfl ?_
  refine AW_get dX1_copyFrom_17 fX1_18 rfl rfl ?_
  refine AW_iconst dX1_copyFrom_20 ?_
  refine AW_aload_n dX1_copyFrom_21 rfl ?_
  refine AW_get dX1_copyFrom_22 fX1_18 rfl rfl ?_
  refine AW_iconst dX1_copyFrom_25 ?_
  refine AW_bipush dX1_copyFrom_26 (by decide) ?_
  refine AW_copyi dX1_copyFrom_28 kX1_31 (Nat.le_of_ble_eq_true rfl) (by decide +kernel) (Nat.le_of_ble_eq_true rfl) rfl rfl ⟨Nat.le_of_ble_eq_true rfl, Nat.le_of_ble_eq_true rfl⟩ (by decide) ?_
  refine AW_aload_n dX1_copyFrom_31 rfl ?_
  refine AW_get dX1_copyFrom_32 fX1_22 rfl rfl ?_
  refine AW_iconst dX1_copyFrom_35 ?_
  refine AW_aload_n dX1_copyFrom_36 rfl ?_
  refine AW_get dX1_copyFrom_37 fX1_22 rfl rfl ?_
  refine AW_iconst dX1_copyFrom_40 ?_
  refine AW_bipush dX1_copyFrom_41 (by decide) ?_
  refine AW_copyi dX1_copyFrom_43 kX1_31 (Nat.le_of_ble_eq_true rfl) (by decide +kernel) (Nat.le_of_ble_eq_true rfl) rfl rfl ⟨Nat.le_of_ble_eq_true rfl, Nat.le_of_ble_eq_true rfl⟩ (by decide) ?_
  refine AW_aload_n dX1_copyFrom_46 rfl ?_
  refine AW_get dX1_copyFrom_47 fX1_25 rfl rfl ?_
  refine AW_iconst dX1_copyFrom_50 ?_
  refine AW_aload_n dX1_copyFrom_51 rfl ?_
  refine AW_get dX1_copyFrom_52 fX1_25 rfl rfl ?_
  refine AW_iconst dX1_copyFrom_55 ?_
  refine AW_sipush dX1_copyFrom_56 (by decide) ?_
  refine AW_copyi dX1_copyFrom_59 kX1_31 (Nat.le_of_ble_eq_true rfl) (by decide +kernel) (Nat.le_of_ble_eq_true rfl) rfl rfl ⟨Nat.le_of_ble_eq_true rfl, Nat.le_of_ble_eq_true rfl⟩ (by decide) ?_
  refine AW_vret dX1_copyFrom_62 rfl ?_
  exact ⟨rfl, rfl⟩
theorem c_cpT_19_2 {σ : am_S} : Runs am_tab mX4_copyFrom [vR 24, vR 7] σ (QV (fun σ' => σ' = cpT σ 24 7)) := by
  refine Runs.of (by decide) rfl (by simp) (Nat.le_of_ble_eq_true rfl) ?_
  show AW am_tab mX4_copyFrom 0 [some (vR 24), some (vR 7)] [] σ _
  refine AW_aload_n dX4_copyFrom_0 rfl ?_
  refine AW_aload_n dX4_copyFrom_1 rfl ?_
  refine AW_get dX4_copyFrom_2 fX4_11 rfl rfl ?_
  refine AW_put dX4_copyFrom_5 pX4_11 rfl rfl rfl rfl ?_
  refine AW_aload_n dX4_copyFrom_8 rfl ?_
  refine AW_get dX4_copyFrom_9 fX4_15 rfl rfl ?_
  refine AW_iconst dX4_copyFrom_12 ?_
  refine AW_aload_n dX4_copyFrom_13 rfl ?_
  refine AW_get dX4_copyFrom_14 fX4_15 rfl rfl ?_
  refine AW_iconst dX4_copyFrom_17 ?_
  refine AW_bipush dX4_copyFrom_18 (by decide) ?_
  refine AW_copyi dX4_copyFrom_20 kX4_32 (Nat.le_of_ble_eq_true rfl) (by decide +kernel) (Nat.le_of_ble_eq_true rfl) rfl rfl ⟨Nat.le_of_ble_eq_true rfl, Nat.le_of_ble_eq_true rfl⟩ (by decide) ?_
  refine AW_aload_n dX4_copyFrom_23 rfl ?_
  refine AW_get dX4_copyFrom_24 fX4_19 rfl rfl ?_
  refine AW_iconst dX4_copyFrom_27 ?_
  refine AW_aload_n dX4_copyFrom_28 rfl ?_
  refine AW_get dX4_copyFrom_29 fX4_19 rfl rfl ?_
  refine AW_iconst dX4_copyFrom_32 ?_
  refine AW_bipush dX4_copyFrom_33 (by decide) ?_
  refine AW_copyi dX4_copyFrom_35 kX4_32 (Nat.le_of_ble_eq_true rfl) (by decide +kernel) (Nat.le_of_ble_eq_true rfl) rfl rfl ⟨Nat.le_of_ble_eq_true rfl, Nat.le_of_ble_eq_true rfl⟩ (by decide) ?_
  refine AW_aload_n dX4_copyFrom_38 rfl ?_
  refine AW_get dX4_copyFrom_39 fX4_22 rfl rfl ?_
  refine AW_iconst dX4_copyFrom_42 ?_
  refine AW_aload_n dX4_copyFrom_43 rfl ?_
  refine AW_get dX4_copyFrom_44 fX4_22 rfl rfl ?_
  refine AW_iconst dX4_copyFrom_47 ?_
  refine AW_bipush dX4_copyFrom_48 (by decide) ?_
  refine AW_copyi dX4_copyFrom_50 kX4_32 (Nat.le_of_ble_eq_true rfl) (by decide +kernel) (Nat.le_of_ble_eq_true rfl) rfl rfl ⟨Nat.le_of_ble_eq_true rfl, Nat.le_of_ble_eq_true rfl⟩ (by decide) ?_
  refine AW_aload_n dX4_copyFrom_53 rfl ?_
  refine AW_get dX4_copyFrom_54 fX4_25 rfl rfl ?_
  refine AW_iconst dX4_copyFrom_57 ?_
  refine AW_aload_n dX4_copyFrom_58 rfl ?_
  refine AW_get dX4_copyFrom_59 fX4_25 rfl rfl ?_
  refine AW_iconst dX4_copyFrom_62 ?_
  refine AW_bipush dX4_copyFrom_63 (by decide) ?_
  refine AW_copyi dX4_copyFrom_65 kX4_32 (Nat.le_of_ble_eq_true rfl) (by decide +kernel) (Nat.le_of_ble_eq_true rfl) rfl rfl ⟨Nat.le_of_ble_eq_true rfl, Nat.le_of_ble_eq_true rfl⟩ (by decide) ?_
  refine AW_aload_n dX4_copyFrom_68 rfl ?_
  refine AW_get dX4_copyFrom_69 fX4_28 rfl rfl ?_
  refine AW_iconst dX4_copyFrom_72 ?_
  refine AW_aload_n dX4_copyFrom_73 rfl ?_
  refine AW_get dX4_copyFrom_74 fX4_28 rfl rfl ?_
  refine AW_iconst dX4_copyFrom_77 ?_
  refine AW_bipush dX4_copyFrom_78 (by decide) ?_
  refine AW_copyl dX4_copyFrom_80 kX4_32 (Nat.le_of_ble_eq_true rfl) (by decide +kernel) (Nat.le_of_ble_eq_true rfl) rfl rfl ⟨Nat.le_of_ble_eq_true rfl, Nat.le_of_ble_eq_true rfl⟩ (by decide) ?_
  refine AW_vret dX4_copyFrom_83 rfl ?_
  exact ⟨rfl, rfl⟩
theorem c_cpS_19_2 {σ : am_S} : Runs am_tab mX3_copyFrom [vR 19, vR 2] σ (QV (fun σ' => σ' = cpS σ 19 2)) := by
  refine Runs.of (by decide) rfl (by simp) (Nat.le_of_ble_eq_true rfl) ?_
  show AW am_tab mX3_copyFrom 0 [some (vR 19), some (vR 2)] [] σ _
  refine AW_aload_n dX3_copyFrom_0 rfl ?_
  refine AW_get dX3_copyFrom_1 fX3_12 rfl rfl ?_
  refine AW_aload_n dX3_copyFrom_4 rfl ?_
  refine AW_get dX3_copyFrom_5 fX3_12 rfl rfl ?_
  refine AW_cVV1 dX3_copyFrom_8 kX3_39 (am_fit_b rfl) rfl rfl (Nat.le_of_ble_eq_true rfl) (c_cpB_19_2) (fun σ' hq2 => ?_)
  replace hq2 := hq2.symm
  subst hq2
  refine AW_aload_n dX3_copyFrom_11 rfl ?_
  refine AW_get dX3_copyFrom_12 fX3_21 rfl rfl ?_
  refine AW_aload_n dX3_copyFrom_15 rfl ?_
  refine AW_get dX3_copyFrom_16 fX3_21 rfl rfl ?_
  refine AW_cVV1 dX3_copyFrom_19 kX3_43 (am_fit_b rfl) rfl rfl (Nat.le_of_ble_eq_true rfl) (c_cpT_19_2) (fun σ' hq2 => ?_)
  replace hq2 := hq2.symm
  subst hq2
  refine AW_aload_n dX3_copyFrom_22 rfl ?_
  refine AW_get dX3_copyFrom_23 fX3_28 rfl rfl ?_
  refine AW_aload_n dX3_copyFrom_26 rfl ?_
  refine AW_get dX3_copyFrom_27 fX3_28 rfl rfl ?_
  refine AW_cVV1 dX3_copyFrom_30 kX3_46 (am_fit_b rfl) rfl rfl (Nat.le_of_ble_eq_true rfl) (c_cpA_19_2) (fun σ' hq2 => ?_)
  replace hq2 := hq2.symm
  subst hq2
  refine AW_aload_n dX3_copyFrom_33 rfl ?_
  refine AW_aload_n dX3_copyFrom_34 rfl ?_
  refine AW_get dX3_copyFrom_35 fX3_32 rfl rfl ?_
  refine AW_put dX3_copyFrom_38 pX3_32 rfl rfl rfl rfl ?_
  refine AW_aload_n dX3_copyFrom_41 rfl ?_
  refine AW_aload_n dX3_copyFrom_42 rfl ?_
  refine AW_get dX3_copyFrom_43 fX3_36 rfl rfl ?_
  refine AW_put dX3_copyFrom_46 pX3_36 rfl rfl rfl rfl ?_
  refine AW_vret dX3_copyFrom_49 rfl ?_
  exact ⟨rfl, rfl⟩
theorem c_cpA_36_2 {σ : am_S} : Runs am_tab mX0_copyFrom [vR 47, vR 13] σ (QV (fun σ' => σ' = cpA σ 47 13)) := by
  refine Runs.of (by decide) rfl (by simp) (Nat.le_of_ble_eq_true rfl) ?_
  show AW am_tab mX0_copyFrom 0 [some (vR 47), some (vR 13)] [] σ _
  refine AW_aload_n dX0_copyFrom_0 rfl ?_
  refine AW_get dX0_copyFrom_1 fX0_9 rfl rfl ?_
  refine AW_iconst dX0_copyFrom_4 ?_
  refine AW_aload_n dX0_copyFrom_5 rfl ?_
  refine AW_get dX0_copyFrom_6 fX0_9 rfl rfl ?_
  refine AW_iconst dX0_copyFrom_9 ?_
  refine AW_iconst dX0_copyFrom_10 ?_
  refine AW_copyi dX0_copyFrom_11 kX0_27 (Nat.le_of_ble_eq_true rfl) (by decide +kernel) (Nat.le_of_ble_eq_true rfl) rfl rfl ⟨Nat.le_of_ble_eq_true rfl, Nat.le_of_ble_eq_true rfl⟩ (by decide) ?_
  refine AW_aload_n dX0_copyFrom_14 rfl ?_
  refine AW_get dX0_copyFrom_15 fX0_15 rfl rfl ?_
  refine AW_iconst dX0_copyFrom_18 ?_
  refine AW_aload_n dX0_copyFrom_19 rfl ?_
  refine AW_get dX0_copyFrom_20 fX0_15 rfl rfl ?_
  refine AW_iconst dX0_copyFrom_23 ?_
  refine AW_iconst dX0_copyFrom_24 ?_
  refine AW_copyi dX0_copyFrom_25 kX0_27 (Nat.le_of_ble_eq_true rfl) (by decide +kernel) (Nat.le_of_ble_eq_true rfl) rfl rfl ⟨Nat.le_of_ble_eq_true rfl, Nat.le_of_ble_eq_true rfl⟩ (by decide) ?_
  refine AW_aload_n dX0_copyFrom_28 rfl ?_
  refine AW_get dX0_copyFrom_29 fX0_18 rfl rfl ?_
  refine AW_iconst dX0_copyFrom_32 ?_
  refine AW_aload_n dX0_copyFrom_33 rfl ?_
  refine AW_get dX0_copyFrom_34 fX0_18 rfl rfl ?_
  refine AW_iconst dX0_copyFrom_37 ?_
  refine AW_iconst dX0_copyFrom_38 ?_
  refine AW_copyi dX0_copyFrom_39 kX0_27 (Nat.le_of_ble_eq_true rfl) (by decide +kernel) (Nat.le_of_ble_eq_true rfl) rfl rfl ⟨Nat.le_of_ble_eq_true rfl, Nat.le_of_ble_eq_true rfl⟩ (by decide) ?_
  refine AW_aload_n dX0_copyFrom_42 rfl ?_
  refine AW_get dX0_copyFrom_43 fX0_21 rfl rfl ?_
  refine AW_iconst dX0_copyFrom_46 ?_
  refine AW_aload_n dX0_copyFrom_47 rfl ?_
  refine AW_get dX0_copyFrom_48 fX0_21 rfl rfl ?_
  refine AW_iconst dX0_copyFrom_51 ?_
  refine AW_iconst dX0_copyFrom_52 ?_
  refine AW_copyi dX0_copyFrom_53 kX0_27 (Nat.le_of_ble_eq_true rfl) (by decide +kernel) (Nat.le_of_ble_eq_true rfl) rfl rfl ⟨Nat.le_of_ble_eq_true rfl, Nat.le_of_ble_eq_true rfl⟩ (by decide) ?_
  refine AW_aload_n dX0_copyFrom_56 rfl ?_
  refine AW_get dX0_copyFrom_57 fX0_24 rfl rfl ?_
  refine AW_iconst dX0_copyFrom_60 ?_
  refine AW_aload_n dX0_copyFrom_61 rfl ?_
  refine AW_get dX0_copyFrom_62 fX0_24 rfl rfl ?_
  refine AW_iconst dX0_copyFrom_65 ?_
  refine AW_iconst dX0_copyFrom_66 ?_
  refine AW_copyi dX0_copyFrom_67 kX0_27 (Nat.le_of_ble_eq_true rfl) (by decide +kernel) (Nat.le_of_ble_eq_true rfl) rfl rfl ⟨Nat.le_of_ble_eq_true rfl, Nat.le_of_ble_eq_true rfl⟩ (by decide) ?_
  refine AW_vret dX0_copyFrom_70 rfl ?_
  exact ⟨rfl, rfl⟩
theorem c_cpB_36_2 {σ : am_S} : Runs am_tab mX1_copyFrom [vR 37, vR 3] σ (QV (fun σ' => σ' = cpB σ 37 3)) := by
  refine Runs.of (by decide) rfl (by simp) (Nat.le_of_ble_eq_true rfl) ?_
  show AW am_tab mX1_copyFrom 0 [some (vR 37), some (vR 3)] [] σ _
  refine AW_aload_n dX1_copyFrom_0 rfl ?_
  refine AW_aload_n dX1_copyFrom_1 rfl ?_
  refine AW_get dX1_copyFrom_2 fX1_9 rfl rfl ?_
  refine AW_put dX1_copyFrom_5 pX1_9 rfl rfl rfl rfl ?_
  refine AW_aload_n dX1_copyFrom_8 rfl ?_
  refine AW_aload_n dX1_copyFrom_9 rfl ?_
  refine AW_get dX1_copyFrom_10 fX1_15 rfl rfl ?_
  refine AW_put dX1_copyFrom_13 pX1_15 rfl rfl rfl rfl ?_
  refine AW_aload_n dX1_copyFrom_16 rfl ?_
  refine AW_get dX1_copyFrom_17 fX1_18 rfl rfl ?_
  refine AW_iconst dX1_copyFrom_20 ?_
  refine AW_aload_n dX1_copyFrom_21 rfl ?_
  refine AW_get dX1_copyFrom_22 fX1_18 rfl rfl ?_
  refine AW_iconst dX1_copyFrom_25 ?_
  refine AW_bipush dX1_copyFrom_26 (by decide) ?_
  refine AW_copyi dX1_copyFrom_28 kX1_31 (Nat.le_of_ble_eq_true rfl) (by decide +kernel) (Nat.le_of_ble_eq_true rfl) rfl rfl ⟨Nat.le_of_ble_eq_true rfl, Nat.le_of_ble_eq_true rfl⟩ (by decide) ?_
  refine AW_aload_n dX1_copyFrom_31 rfl ?_
  refine AW_get dX1_copyFrom_32 fX1_22 rfl rfl ?_
  refine AW_iconst dX1_copyFrom_35 ?_
  refine AW_aload_n dX1_copyFrom_36 rfl ?_
  refine AW_get dX1_copyFrom_37 fX1_22 rfl rfl ?_
  refine AW_iconst dX1_copyFrom_40 ?_
  refine AW_bipush dX1_copyFrom_41 (by decide) ?_
  refine AW_copyi dX1_copyFrom_43 kX1_31 (Nat.le_of_ble_eq_true rfl) (by decide +kernel) (Nat.le_of_ble_eq_true rfl) rfl rfl ⟨Nat.le_of_ble_eq_true rfl, Nat.le_of_ble_eq_true rfl⟩ (by decide) ?_
  refine AW_aload_n dX1_copyFrom_46 rfl ?_
  refine AW_get dX1_copyFrom_47 fX1_25 rfl rfl ?_
  refine AW_iconst dX1_copyFrom_50 ?_
  refine AW_aload_n dX1_copyFrom_51 rfl ?_
  refine AW_get dX1_copyFrom_52 fX1_25 rfl rfl ?_
  refine AW_iconst dX1_copyFrom_55 ?_
  refine AW_sipush dX1_copyFrom_56 (by decide) ?_
  refine AW_copyi dX1_copyFrom_59 kX1_31 (Nat.le_of_ble_eq_true rfl) (by decide +kernel) (Nat.le_of_ble_eq_true rfl) rfl rfl ⟨Nat.le_of_ble_eq_true rfl, Nat.le_of_ble_eq_true rfl⟩ (by decide) ?_
  refine AW_vret dX1_copyFrom_62 rfl ?_
  exact ⟨rfl, rfl⟩
theorem c_cpT_36_2 {σ : am_S} : Runs am_tab mX4_copyFrom [vR 41, vR 7] σ (QV (fun σ' => σ' = cpT σ 41 7)) := by
  refine Runs.of (by decide) rfl (by simp) (Nat.le_of_ble_eq_true rfl) ?_
  show AW am_tab mX4_copyFrom 0 [some (vR 41), some (vR 7)] [] σ _
  refine AW_aload_n dX4_copyFrom_0 rfl ?_
  refine AW_aload_n dX4_copyFrom_1 rfl ?_
  refine AW_get dX4_copyFrom_2 fX4_11 rfl rfl ?_
  refine AW_put dX4_copyFrom_5 pX4_11 rfl rfl rfl rfl ?_
  refine AW_aload_n dX4_copyFrom_8 rfl ?_
  refine AW_get dX4_copyFrom_9 fX4_15 rfl rfl ?_
  refine AW_iconst dX4_copyFrom_12 ?_
  refine AW_aload_n dX4_copyFrom_13 rfl ?_
  refine AW_get dX4_copyFrom_14 fX4_15 rfl rfl ?_
  refine AW_iconst dX4_copyFrom_17 ?_
  refine AW_bipush dX4_copyFrom_18 (by decide) ?_
  refine AW_copyi dX4_copyFrom_20 kX4_32 (Nat.le_of_ble_eq_true rfl) (by decide +kernel) (Nat.le_of_ble_eq_true rfl) rfl rfl ⟨Nat.le_of_ble_eq_true rfl, Nat.le_of_ble_eq_true rfl⟩ (by decide) ?_
  refine AW_aload_n dX4_copyFrom_23 rfl ?_
  refine AW_get dX4_copyFrom_24 fX4_19 rfl rfl ?_
  refine AW_iconst dX4_copyFrom_27 ?_
  refine AW_aload_n dX4_copyFrom_28 rfl ?_
  refine AW_get dX4_copyFrom_29 fX4_19 rfl rfl ?_
  refine AW_iconst dX4_copyFrom_32 ?_
  refine AW_bipush dX4_copyFrom_33 (by decide) ?_
  refine AW_copyi dX4_copyFrom_35 kX4_32 (Nat.le_of_ble_eq_true rfl) (by decide +kernel) (Nat.le_of_ble_eq_true rfl) rfl rfl ⟨Nat.le_of_ble_eq_true rfl, Nat.le_of_ble_eq_true rfl⟩ (by decide) ?_
  refine AW_aload_n dX4_copyFrom_38 rfl ?_
  refine AW_get dX4_copyFrom_39 fX4_22 rfl rfl ?_
  refine AW_iconst dX4_copyFrom_42 ?_
  refine AW_aload_n dX4_copyFrom_43 rfl ?_
  refine AW_get dX4_copyFrom_44 fX4_22 rfl rfl ?_
  refine AW_iconst dX4_copyFrom_47 ?_
  refine AW_bipush dX4_copyFrom_48 (by decide) ?_
  refine AW_copyi dX4_copyFrom_50 kX4_32 (Nat.le_of_ble_eq_true rfl) (by decide +kernel) (Nat.le_of_ble_eq_true rfl) rfl rfl ⟨Nat.le_of_ble_eq_true rfl, Nat.le_of_ble_eq_true rfl⟩ (by decide) ?_
  refine AW_aload_n dX4_copyFrom_53 rfl ?_
  refine AW_get dX4_copyFrom_54 fX4_25 rfl rfl ?_
  refine AW_iconst dX4_copyFrom_57 ?_
  refine AW_aload_n dX4_copyFrom_58 rfl ?_
  refine AW_get dX4_copyFrom_59 fX4_25 rfl rfl ?_
  refine AW_iconst dX4_copyFrom_62 ?_
  refine AW_bipush dX4_copyFrom_63 (by decide) ?_
  refine AW_copyi dX4_copyFrom_65 kX4_32 (Nat.le_of_ble_eq_true rfl) (by decide +kernel) (Nat.le_of_ble_eq_true rfl) rfl rfl ⟨Nat.le_of_ble_eq_true rfl, Nat.le_of_ble_eq_true rfl⟩ (by decide) ?_
  refine AW_aload_n dX4_copyFrom_68 rfl ?_
  refine AW_get dX4_copyFrom_69 fX4_28 rfl rfl ?_
  refine AW_iconst dX4_copyFrom_72 ?_
  refine AW_aload_n dX4_copyFrom_73 rfl ?_
  refine AW_get dX4_copyFrom_74 fX4_28 rfl rfl ?_
  refine AW_iconst dX4_copyFrom_77 ?_
  refine AW_bipush dX4_copyFrom_78 (by decide) ?_
  refine AW_copyl dX4_copyFrom_80 kX4_32 (Nat.le_of_ble_eq_true rfl) (by decide +kernel) (Nat.le_of_ble_eq_true rfl) rfl rfl ⟨Nat.le_of_ble_eq_true rfl, Nat.le_of_ble_eq_true rfl⟩ (by decide) ?_
  refine AW_vret dX4_copyFrom_83 rfl ?_
  exact ⟨rfl, rfl⟩
theorem c_cpS_36_2 {σ : am_S} : Runs am_tab mX3_copyFrom [vR 36, vR 2] σ (QV (fun σ' => σ' = cpS σ 36 2)) := by
  refine Runs.of (by decide) rfl (by simp) (Nat.le_of_ble_eq_true rfl) ?_
  show AW am_tab mX3_copyFrom 0 [some (vR 36), some (vR 2)] [] σ _
  refine AW_aload_n dX3_copyFrom_0 rfl ?_
  refine AW_get dX3_copyFrom_1 fX3_12 rfl rfl ?_
  refine AW_aload_n dX3_copyFrom_4 rfl ?_
  refine AW_get dX3_copyFrom_5 fX3_12 rfl rfl ?_
  refine AW_cVV1 dX3_copyFrom_8 kX3_39 (am_fit_b rfl) rfl rfl (Nat.le_of_ble_eq_true rfl) (c_cpB_36_2) (fun σ' hq2 => ?_)
  replace hq2 := hq2.symm
  subst hq2
  refine AW_aload_n dX3_copyFrom_11 rfl ?_
  refine AW_get dX3_copyFrom_12 fX3_21 rfl rfl ?_
  refine AW_aload_n dX3_copyFrom_15 rfl ?_
  refine AW_get dX3_copyFrom_16 fX3_21 rfl rfl ?_
  refine AW_cVV1 dX3_copyFrom_19 kX3_43 (am_fit_b rfl) rfl rfl (Nat.le_of_ble_eq_true rfl) (c_cpT_36_2) (fun σ' hq2 => ?_)
  replace hq2 := hq2.symm
  subst hq2
  refine AW_aload_n dX3_copyFrom_22 rfl ?_
  refine AW_get dX3_copyFrom_23 fX3_28 rfl rfl ?_
  refine AW_aload_n dX3_copyFrom_26 rfl ?_
  refine AW_get dX3_copyFrom_27 fX3_28 rfl rfl ?_
  refine AW_cVV1 dX3_copyFrom_30 kX3_46 (am_fit_b rfl) rfl rfl (Nat.le_of_ble_eq_true rfl) (c_cpA_36_2) (fun σ' hq2 => ?_)
  replace hq2 := hq2.symm
  subst hq2
  refine AW_aload_n dX3_copyFrom_33 rfl ?_
  refine AW_aload_n dX3_copyFrom_34 rfl ?_
  refine AW_get dX3_copyFrom_35 fX3_32 rfl rfl ?_
  refine AW_put dX3_copyFrom_38 pX3_32 rfl rfl rfl rfl ?_
  refine AW_aload_n dX3_copyFrom_41 rfl ?_
  refine AW_aload_n dX3_copyFrom_42 rfl ?_
  refine AW_get dX3_copyFrom_43 fX3_36 rfl rfl ?_
  refine AW_put dX3_copyFrom_46 pX3_36 rfl rfl rfl rfl ?_
  refine AW_vret dX3_copyFrom_49 rfl ?_
  exact ⟨rfl, rfl⟩
theorem c_cpA_2_19 {σ : am_S} : Runs am_tab mX0_copyFrom [vR 13, vR 30] σ (QV (fun σ' => σ' = cpA σ 13 30)) := by
  refine Runs.of (by decide) rfl (by simp) (Nat.le_of_ble_eq_true rfl) ?_
  show AW am_tab mX0_copyFrom 0 [some (vR 13), some (vR 30)] [] σ _
  refine AW_aload_n dX0_copyFrom_0 rfl ?_
  refine AW_get dX0_copyFrom_1 fX0_9 rfl rfl ?_
  refine AW_iconst dX0_copyFrom_4 ?_
  refine AW_aload_n dX0_copyFrom_5 rfl ?_
  refine AW_get dX0_copyFrom_6 fX0_9 rfl rfl ?_
  refine AW_iconst dX0_copyFrom_9 ?_
  refine AW_iconst dX0_copyFrom_10 ?_
  refine AW_copyi dX0_copyFrom_11 kX0_27 (Nat.le_of_ble_eq_true rfl) (by decide +kernel) (Nat.le_of_ble_eq_true rfl) rfl rfl ⟨Nat.le_of_ble_eq_true rfl, Nat.le_of_ble_eq_true rfl⟩ (by decide) ?_
  refine AW_aload_n dX0_copyFrom_14 rfl ?_
  refine AW_get dX0_copyFrom_15 fX0_15 rfl rfl ?_
  refine AW_iconst dX0_copyFrom_18 ?_
  refine AW_aload_n dX0_copyFrom_19 rfl ?_
  refine AW_get dX0_copyFrom_20 fX0_15 rfl rfl ?_
  refine AW_iconst dX0_copyFrom_23 ?_
  refine AW_iconst dX0_copyFrom_24 ?_
  refine AW_copyi dX0_copyFrom_25 kX0_27 (Nat.le_of_ble_eq_true rfl) (by decide +kernel) (Nat.le_of_ble_eq_true rfl) rfl rfl ⟨Nat.le_of_ble_eq_true rfl, Nat.le_of_ble_eq_true rfl⟩ (by decide) ?_
  refine AW_aload_n dX0_copyFrom_28 rfl ?_
  refine AW_get dX0_copyFrom_29 fX0_18 rfl rfl ?_
  refine AW_iconst dX0_copyFrom_32 ?_
  refine AW_aload_n dX0_copyFrom_33 rfl ?_
  refine AW_get dX0_copyFrom_34 fX0_18 rfl rfl ?_
  refine AW_iconst dX0_copyFrom_37 ?_
  refine AW_iconst dX0_copyFrom_38 ?_
  refine AW_copyi dX0_copyFrom_39 kX0_27 (Nat.le_of_ble_eq_true rfl) (by decide +kernel) (Nat.le_of_ble_eq_true rfl) rfl rfl ⟨Nat.le_of_ble_eq_true rfl, Nat.le_of_ble_eq_true rfl⟩ (by decide) ?_
  refine AW_aload_n dX0_copyFrom_42 rfl ?_
  refine AW_get dX0_copyFrom_43 fX0_21 rfl rfl ?_
  refine AW_iconst dX0_copyFrom_46 ?_
  refine AW_aload_n dX0_copyFrom_47 rfl ?_
  refine AW_get dX0_copyFrom_48 fX0_21 rfl rfl ?_
  refine AW_iconst dX0_copyFrom_51 ?_
  refine AW_iconst dX0_copyFrom_52 ?_
  refine AW_copyi dX0_copyFrom_53 kX0_27 (Nat.le_of_ble_eq_true rfl) (by decide +kernel) (Nat.le_of_ble_eq_true rfl) rfl rfl ⟨Nat.le_of_ble_eq_true rfl, Nat.le_of_ble_eq_true rfl⟩ (by decide) ?_
  refine AW_aload_n dX0_copyFrom_56 rfl ?_
  refine AW_get dX0_copyFrom_57 fX0_24 rfl rfl ?_
  refine AW_iconst dX0_copyFrom_60 ?_
  refine AW_aload_n dX0_copyFrom_61 rfl ?_
  refine AW_get dX0_copyFrom_62 fX0_24 rfl rfl ?_
  refine AW_iconst dX0_copyFrom_65 ?_
  refine AW_iconst dX0_copyFrom_66 ?_
  refine AW_copyi dX0_copyFrom_67 kX0_27 (Nat.le_of_ble_eq_true rfl) (by decide +kernel) (Nat.le_of_ble_eq_true rfl) rfl rfl ⟨Nat.le_of_ble_eq_true rfl, Nat.le_of_ble_eq_true rfl⟩ (by decide) ?_
  refine AW_vret dX0_copyFrom_70 rfl ?_
  exact ⟨rfl, rfl⟩
theorem c_cpB_2_19 {σ : am_S} : Runs am_tab mX1_copyFrom [vR 3, vR 20] σ (QV (fun σ' => σ' = cpB σ 3 20)) := by
  refine Runs.of (by decide) rfl (by simp) (Nat.le_of_ble_eq_true rfl) ?_
  show AW am_tab mX1_copyFrom 0 [some (vR 3), some (vR 20)] [] σ _
  refine AW_aload_n dX1_copyFrom_0 rfl ?_
  refine AW_aload_n dX1_copyFrom_1 rfl ?_
  refine AW_get dX1_copyFrom_2 fX1_9 rfl rfl ?_
  refine AW_put dX1_copyFrom_5 pX1_9 rfl rfl rfl rfl ?_
  refine AW_aload_n dX1_copyFrom_8 rfl ?_
  refine AW_aload_n dX1_copyFrom_9 rfl ?_
  refine AW_get dX1_copyFrom_10 fX1_15 rfl rfl ?_
  refine AW_put dX1_copyFrom_13 pX1_15 rfl rfl rfl rfl ?_
  refine AW_aload_n dX1_copyFrom_16 rfl ?_
  refine AW_get dX1_copyFrom_17 fX1_18 rfl rfl ?_
  refine AW_iconst dX1_copyFrom_20 ?_
  refine AW_aload_n dX1_copyFrom_21 rfl ?_
  refine AW_get dX1_copyFrom_22 fX1_18 rfl rfl ?_
  refine AW_iconst dX1_copyFrom_25 ?_
  refine AW_bipush dX1_copyFrom_26 (by decide) ?_
  refine AW_copyi dX1_copyFrom_28 kX1_31 (Nat.le_of_ble_eq_true rfl) (by decide +kernel) (Nat.le_of_ble_eq_true rfl) rfl rfl ⟨Nat.le_of_ble_eq_true rfl, Nat.le_of_ble_eq_true rfl⟩ (by decide) ?_
  refine AW_aload_n dX1_copyFrom_31 rfl ?_
  refine AW_get dX1_copyFrom_32 fX1_22 rfl rfl ?_
  refine AW_iconst dX1_copyFrom_35 ?_
  refine AW_aload_n dX1_copyFrom_36 rfl ?_
  refine AW_get dX1_copyFrom_37 fX1_22 rfl rfl ?_
  refine AW_iconst dX1_copyFrom_40 ?_
  refine AW_bipush dX1_copyFrom_41 (by decide) ?_
  refine AW_copyi dX1_copyFrom_43 kX1_31 (Nat.le_of_ble_eq_true rfl) (by decide +kernel) (Nat.le_of_ble_eq_true rfl) rfl rfl ⟨Nat.le_of_ble_eq_true rfl, Nat.le_of_ble_eq_true rfl⟩ (by decide) ?_
  refine AW_aload_n dX1_copyFrom_46 rfl ?_
  refine AW_get dX1_copyFrom_47 fX1_25 rfl rfl ?_
  refine AW_iconst dX1_copyFrom_50 ?_
  refine AW_aload_n dX1_copyFrom_51 rfl ?_
  refine AW_get dX1_copyFrom_52 fX1_25 rfl rfl ?_
  refine AW_iconst dX1_copyFrom_55 ?_
  refine AW_sipush dX1_copyFrom_56 (by decide) ?_
  refine AW_copyi dX1_copyFrom_59 kX1_31 (Nat.le_of_ble_eq_true rfl) (by decide +kernel) (Nat.le_of_ble_eq_true rfl) rfl rfl ⟨Nat.le_of_ble_eq_true rfl, Nat.le_of_ble_eq_true rfl⟩ (by decide) ?_
  refine AW_vret dX1_copyFrom_62 rfl ?_
  exact ⟨rfl, rfl⟩
theorem c_cpT_2_19 {σ : am_S} : Runs am_tab mX4_copyFrom [vR 7, vR 24] σ (QV (fun σ' => σ' = cpT σ 7 24)) := by
  refine Runs.of (by decide) rfl (by simp) (Nat.le_of_ble_eq_true rfl) ?_
  show AW am_tab mX4_copyFrom 0 [some (vR 7), some (vR 24)] [] σ _
  refine AW_aload_n dX4_copyFrom_0 rfl ?_
  refine AW_aload_n dX4_copyFrom_1 rfl ?_
  refine AW_get dX4_copyFrom_2 fX4_11 rfl rfl ?_
  refine AW_put dX4_copyFrom_5 pX4_11 rfl rfl rfl rfl ?_
  refine AW_aload_n dX4_copyFrom_8 rfl ?_
  refine AW_get dX4_copyFrom_9 fX4_15 rfl rfl ?_
  refine AW_iconst dX4_copyFrom_12 ?_
  refine AW_aload_n dX4_copyFrom_13 rfl ?_
  refine AW_get dX4_copyFrom_14 fX4_15 rfl rfl ?_
  refine AW_iconst dX4_copyFrom_17 ?_
  refine AW_bipush dX4_copyFrom_18 (by decide) ?_
  refine AW_copyi dX4_copyFrom_20 kX4_32 (Nat.le_of_ble_eq_true rfl) (by decide +kernel) (Nat.le_of_ble_eq_true rfl) rfl rfl ⟨Nat.le_of_ble_eq_true rfl, Nat.le_of_ble_eq_true rfl⟩ (by decide) ?_
  refine AW_aload_n dX4_copyFrom_23 rfl ?_
  refine AW_get dX4_copyFrom_24 fX4_19 rfl rfl ?_
  refine AW_iconst dX4_copyFrom_27 ?_
  refine AW_aload_n dX4_copyFrom_28 rfl ?_
  refine AW_get dX4_copyFrom_29 fX4_19 rfl rfl ?_
  refine AW_iconst dX4_copyFrom_32 ?_
  refine AW_bipush dX4_copyFrom_33 (by decide) ?_
  refine AW_copyi dX4_copyFrom_35 kX4_32 (Nat.le_of_ble_eq_true rfl) (by decide +kernel) (Nat.le_of_ble_eq_true rfl) rfl rfl ⟨Nat.le_of_ble_eq_true rfl, Nat.le_of_ble_eq_true rfl⟩ (by decide) ?_
  refine AW_aload_n dX4_copyFrom_38 rfl ?_
  refine AW_get dX4_copyFrom_39 fX4_22 rfl rfl ?_
  refine AW_iconst dX4_copyFrom_42 ?_
  refine AW_aload_n dX4_copyFrom_43 rfl ?_
  refine AW_get dX4_copyFrom_44 fX4_22 rfl rfl ?_
  refine AW_iconst dX4_copyFrom_47 ?_
  refine AW_bipush dX4_copyFrom_48 (by decide) ?_
  refine AW_copyi dX4_copyFrom_50 kX4_32 (Nat.le_of_ble_eq_true rfl) (by decide +kernel) (Nat.le_of_ble_eq_true rfl) rfl rfl ⟨Nat.le_of_ble_eq_true rfl, Nat.le_of_ble_eq_true rfl⟩ (by decide) ?_
  refine AW_aload_n dX4_copyFrom_53 rfl ?_
  refine AW_get dX4_copyFrom_54 fX4_25 rfl rfl ?_
  refine AW_iconst dX4_copyFrom_57 ?_
  refine AW_aload_n dX4_copyFrom_58 rfl ?_
  refine AW_get dX4_copyFrom_59 fX4_25 rfl rfl ?_
  refine AW_iconst dX4_copyFrom_62 ?_
  refine AW_bipush dX4_copyFrom_63 (by decide) ?_
  refine AW_copyi dX4_copyFrom_65 kX4_32 (Nat.le_of_ble_eq_true rfl) (by decide +kernel) (Nat.le_of_ble_eq_true rfl) rfl rfl ⟨Nat.le_of_ble_eq_true rfl, Nat.le_of_ble_eq_true rfl⟩ (by decide) ?_
  refine AW_aload_n dX4_copyFrom_68 rfl ?_
  refine AW_get dX4_copyFrom_69 fX4_28 rfl rfl ?_
  refine AW_iconst dX4_copyFrom_72 ?_
  refine AW_aload_n dX4_copyFrom_73 rfl ?_
  refine AW_get dX4_copyFrom_74 fX4_28 rfl rfl ?_
  refine AW_iconst dX4_copyFrom_77 ?_
  refine AW_bipush dX4_copyFrom_78 (by decide) ?_
  refine AW_copyl dX4_copyFrom_80 kX4_32 (Nat.le_of_ble_eq_true rfl) (by decide +kernel) (Nat.le_of_ble_eq_true rfl) rfl rfl ⟨Nat.le_of_ble_eq_true rfl, Nat.le_of_ble_eq_true rfl⟩ (by decide) ?_
  refine AW_vret dX4_copyFrom_83 rfl ?_
  exact ⟨rfl, rfl⟩
theorem c_cpS_2_19 {σ : am_S} : Runs am_tab mX3_copyFrom [vR 2, vR 19] σ (QV (fun σ' => σ' = cpS σ 2 19)) := by
  refine Runs.of (by decide) rfl (by simp) (Nat.le_of_ble_eq_true rfl) ?_
  show AW am_tab mX3_copyFrom 0 [some (vR 2), some (vR 19)] [] σ _
  refine AW_aload_n dX3_copyFrom_0 rfl ?_
  refine AW_get dX3_copyFrom_1 fX3_12 rfl rfl ?_
  refine AW_aload_n dX3_copyFrom_4 rfl ?_
  refine AW_get dX3_copyFrom_5 fX3_12 rfl rfl ?_
  refine AW_cVV1 dX3_copyFrom_8 kX3_39 (am_fit_b rfl) rfl rfl (Nat.le_of_ble_eq_true rfl) (c_cpB_2_19) (fun σ' hq2 => ?_)
  replace hq2 := hq2.symm
  subst hq2
  refine AW_aload_n dX3_copyFrom_11 rfl ?_
  refine AW_get dX3_copyFrom_12 fX3_21 rfl rfl ?_
  refine AW_aload_n dX3_copyFrom_15 rfl ?_
  refine AW_get dX3_copyFrom_16 fX3_21 rfl rfl ?_
  refine AW_cVV1 dX3_copyFrom_19 kX3_43 (am_fit_b rfl) rfl rfl (Nat.le_of_ble_eq_true rfl) (c_cpT_2_19) (fun σ' hq2 => ?_)
  replace hq2 := hq2.symm
  subst hq2
  refine AW_aload_n dX3_copyFrom_22 rfl ?_
  refine AW_get dX3_copyFrom_23 fX3_28 rfl rfl ?_
  refine AW_aload_n dX3_copyFrom_26 rfl ?_
  refine AW_get dX3_copyFrom_27 fX3_28 rfl rfl ?_
  refine AW_cVV1 dX3_copyFrom_30 kX3_46 (am_fit_b rfl) rfl rfl (Nat.le_of_ble_eq_true rfl) (c_cpA_2_19) (fun σ' hq2 => ?_)
  replace hq2 := hq2.symm
  subst hq2
  refine AW_aload_n dX3_copyFrom_33 rfl ?_
  refine AW_aload_n dX3_copyFrom_34 rfl ?_
  refine AW_get dX3_copyFrom_35 fX3_32 rfl rfl ?_
  refine AW_put dX3_copyFrom_38 pX3_32 rfl rfl rfl rfl ?_
  refine AW_aload_n dX3_copyFrom_41 rfl ?_
  refine AW_aload_n dX3_copyFrom_42 rfl ?_
  refine AW_get dX3_copyFrom_43 fX3_36 rfl rfl ?_
  refine AW_put dX3_copyFrom_46 pX3_36 rfl rfl rfl rfl ?_
  refine AW_vret dX3_copyFrom_49 rfl ?_
  exact ⟨rfl, rfl⟩
theorem c_cpA_2_36 {σ : am_S} : Runs am_tab mX0_copyFrom [vR 13, vR 47] σ (QV (fun σ' => σ' = cpA σ 13 47)) := by
  refine Runs.of (by decide) rfl (by simp) (Nat.le_of_ble_eq_true rfl) ?_
  show AW am_tab mX0_copyFrom 0 [some (vR 13), some (vR 47)] [] σ _
  refine AW_aload_n dX0_copyFrom_0 rfl ?_
  refine AW_get dX0_copyFrom_1 fX0_9 rfl rfl ?_
  refine AW_iconst dX0_copyFrom_4 ?_
  refine AW_aload_n dX0_copyFrom_5 rfl ?_
  refine AW_get dX0_copyFrom_6 fX0_9 rfl rfl ?_
  refine AW_iconst dX0_copyFrom_9 ?_
  refine AW_iconst dX0_copyFrom_10 ?_
  refine AW_copyi dX0_copyFrom_11 kX0_27 (Nat.le_of_ble_eq_true rfl) (by decide +kernel) (Nat.le_of_ble_eq_true rfl) rfl rfl ⟨Nat.le_of_ble_eq_true rfl, Nat.le_of_ble_eq_true rfl⟩ (by decide) ?_
  refine AW_aload_n dX0_copyFrom_14 rfl ?_
  refine AW_get dX0_copyFrom_15 fX0_15 rfl rfl ?_
  refine AW_iconst dX0_copyFrom_18 ?_
  refine AW_aload_n dX0_copyFrom_19 rfl ?_
  refine AW_get dX0_copyFrom_20 fX0_15 rfl rfl ?_
  refine AW_iconst dX0_copyFrom_23 ?_
  refine AW_iconst dX0_copyFrom_24 ?_
  refine AW_copyi dX0_copyFrom_25 kX0_27 (Nat.le_of_ble_eq_true rfl) (by decide +kernel) (Nat.le_of_ble_eq_true rfl) rfl rfl ⟨Nat.le_of_ble_eq_true rfl, Nat.le_of_ble_eq_true rfl⟩ (by decide) ?_
  refine AW_aload_n dX0_copyFrom_28 rfl ?_
  refine AW_get dX0_copyFrom_29 fX0_18 rfl rfl ?_
  refine AW_iconst dX0_copyFrom_32 ?_
  refine AW_aload_n dX0_copyFrom_33 rfl ?_
  refine AW_get dX0_copyFrom_34 fX0_18 rfl rfl ?_
  refine AW_iconst dX0_copyFrom_37 ?_
  refine AW_iconst dX0_copyFrom_38 ?_
  refine AW_copyi dX0_copyFrom_39 kX0_27 (Nat.le_of_ble_eq_true rfl) (by decide +kernel) (Nat.le_of_ble_eq_true rfl) rfl rfl ⟨Nat.le_of_ble_eq_true rfl, Nat.le_of_ble_eq_true rfl⟩ (by decide) ?_
  refine AW_aload_n dX0_copyFrom_42 rfl ?_
  refine AW_get dX0_copyFrom_43 fX0_21 rfl rfl ?_
  refine AW_iconst dX0_copyFrom_46 ?_
  refine AW_aload_n dX0_copyFrom_47 rfl ?_
  refine AW_get dX0_copyFrom_48 fX0_21 rfl rfl ?_
  refine AW_iconst dX0_copyFrom_51 ?_
  refine AW_iconst dX0_copyFrom_52 ?_
  refine AW_copyi dX0_copyFrom_53 kX0_27 (Nat.le_of_ble_eq_true rfl) (by decide +kernel) (Nat.le_of_ble_eq_true rfl) rfl rfl ⟨Nat.le_of_ble_eq_true rfl, Nat.le_of_ble_eq_true rfl⟩ (by decide) ?_
  refine AW_aload_n dX0_copyFrom_56 rfl ?_
  refine AW_get dX0_copyFrom_57 fX0_24 rfl rfl ?_
  refine AW_iconst dX0_copyFrom_60 ?_
  refine AW_aload_n dX0_copyFrom_61 rfl ?_
  refine AW_get dX0_copyFrom_62 fX0_24 rfl rfl ?_
  refine AW_iconst dX0_copyFrom_65 ?_
  refine AW_iconst dX0_copyFrom_66 ?_
  refine AW_copyi dX0_copyFrom_67 kX0_27 (Nat.le_of_ble_eq_true rfl) (by decide +kernel) (Nat.le_of_ble_eq_true rfl) rfl rfl ⟨Nat.le_of_ble_eq_true rfl, Nat.le_of_ble_eq_true rfl⟩ (by decide) ?_
  refine AW_vret dX0_copyFrom_70 rfl ?_
  exact ⟨rfl, rfl⟩
theorem c_cpB_2_36 {σ : am_S} : Runs am_tab mX1_copyFrom [vR 3, vR 37] σ (QV (fun σ' => σ' = cpB σ 3 37)) := by
  refine Runs.of (by decide) rfl (by simp) (Nat.le_of_ble_eq_true rfl) ?_
  show AW am_tab mX1_copyFrom 0 [some (vR 3), some (vR 37)] [] σ _
  refine AW_aload_n dX1_copyFrom_0 rfl ?_
  refine AW_aload_n dX1_copyFrom_1 rfl ?_
  refine AW_get dX1_copyFrom_2 fX1_9 rfl rfl ?_
  refine AW_put dX1_copyFrom_5 pX1_9 rfl rfl rfl rfl ?_
  refine AW_aload_n dX1_copyFrom_8 rfl ?_
  refine AW_aload_n dX1_copyFrom_9 rfl ?_
  refine AW_get dX1_copyFrom_10 fX1_15 rfl rfl ?_
  refine AW_put dX1_copyFrom_13 pX1_15 rfl rfl rfl rfl ?_
  refine AW_aload_n dX1_copyFrom_16 rfl ?_
  refine AW_get dX1_copyFrom_17 fX1_18 rfl rfl ?_
  refine AW_iconst dX1_copyFrom_20 ?_
  refine AW_aload_n dX1_copyFrom_21 rfl ?_
  refine AW_get dX1_copyFrom_22 fX1_18 rfl rfl ?_
  refine AW_iconst dX1_copyFrom_25 ?_
  refine AW_bipush dX1_copyFrom_26 (by decide) ?_
  refine AW_copyi dX1_copyFrom_28 kX1_31 (Nat.le_of_ble_eq_true rfl) (by decide +kernel) (Nat.le_of_ble_eq_true rfl) rfl rfl ⟨Nat.le_of_ble_eq_true rfl, Nat.le_of_ble_eq_true rfl⟩ (by decide) ?_
  refine AW_aload_n dX1_copyFrom_31 rfl ?_
  refine AW_get dX1_copyFrom_32 fX1_22 rfl rfl ?_
  refine AW_iconst dX1_copyFrom_35 ?_
  refine AW_aload_n dX1_copyFrom_36 rfl ?_
  refine AW_get dX1_copyFrom_37 fX1_22 rfl rfl ?_
  refine AW_iconst dX1_copyFrom_40 ?_
  refine AW_bipush dX1_copyFrom_41 (by decide) ?_
  refine AW_copyi dX1_copyFrom_43 kX1_31 (Nat.le_of_ble_eq_true rfl) (by decide +kernel) (Nat.le_of_ble_eq_true rfl) rfl rfl ⟨Nat.le_of_ble_eq_true rfl, Nat.le_of_ble_eq_true rfl⟩ (by decide) ?_
  refine AW_aload_n dX1_copyFrom_46 rfl ?_
  refine AW_get dX1_copyFrom_47 fX1_25 rfl rfl ?_
  refine AW_iconst dX1_copyFrom_50 ?_
  refine AW_aload_n dX1_copyFrom_51 rfl ?_
  refine AW_get dX1_copyFrom_52 fX1_25 rfl rfl ?_
  refine AW_iconst dX1_copyFrom_55 ?_
  refine AW_sipush dX1_copyFrom_56 (by decide) ?_
  refine AW_copyi dX1_copyFrom_59 kX1_31 (Nat.le_of_ble_eq_true rfl) (by decide +kernel) (Nat.le_of_ble_eq_true rfl) rfl rfl ⟨Nat.le_of_ble_eq_true rfl, Nat.le_of_ble_eq_true rfl⟩ (by decide) ?_
  refine AW_vret dX1_copyFrom_62 rfl ?_
  exact ⟨rfl, rfl⟩
theorem c_cpT_2_36 {σ : am_S} : Runs am_tab mX4_copyFrom [vR 7, vR 41] σ (QV (fun σ' => σ' = cpT σ 7 41)) := by
  refine Runs.of (by decide) rfl (by simp) (Nat.le_of_ble_eq_true rfl) ?_
  show AW am_tab mX4_copyFrom 0 [some (vR 7), some (vR 41)] [] σ _
  refine AW_aload_n dX4_copyFrom_0 rfl ?_
  refine AW_aload_n dX4_copyFrom_1 rfl ?_
  refine AW_get dX4_copyFrom_2 fX4_11 rfl rfl ?_
  refine AW_put dX4_copyFrom_5 pX4_11 rfl rfl rfl rfl ?_
  refine AW_aload_n dX4_copyFrom_8 rfl ?_
  refine AW_get dX4_copyFrom_9 fX4_15 rfl rfl ?_
  refine AW_iconst dX4_copyFrom_12 ?_
  refine AW_aload_n dX4_copyFrom_13 rfl ?_
  refine AW_get dX4_copyFrom_14 fX4_15 rfl rfl ?_
  refine AW_iconst dX4_copyFrom_17 ?_
  refine AW_bipush dX4_copyFrom_18 (by decide) ?_
  refine AW_copyi dX4_copyFrom_20 kX4_32 (Nat.le_of_ble_eq_true rfl) (by decide +kernel) (Nat.le_of_ble_eq_true rfl) rfl rfl ⟨Nat.le_of_ble_eq_true rfl, Nat.le_of_ble_eq_true rfl⟩ (by decide) ?_
  refine AW_aload_n dX4_copyFrom_23 rfl ?_
  refine AW_get dX4_copyFrom_24 fX4_19 rfl rfl ?_
  refine AW_iconst dX4_copyFrom_27 ?_
  refine AW_aload_n dX4_copyFrom_28 rfl ?_
  refine AW_get dX4_copyFrom_29 fX4_19 rfl rfl ?_
  refine AW_iconst dX4_copyFrom_32 ?_
  refine AW_bipush dX4_copyFrom_33 (by decide) ?_
  refine AW_copyi dX4_copyFrom_35 kX4_32 (Nat.le_of_ble_eq_true rfl) (by decide +kernel) (Nat.le_of_ble_eq_true rfl) rfl rfl ⟨Nat.le_of_ble_eq_true rfl, Nat.le_of_ble_eq_true rfl⟩ (by decide) ?_
  refine AW_aload_n dX4_copyFrom_38 rfl ?_
  refine AW_get dX4_copyFrom_39 fX4_22 rfl rfl ?_
  refine AW_iconst dX4_copyFrom_42 ?_
  refine AW_aload_n dX4_copyFrom_43 rfl ?_
  refine AW_get dX4_copyFrom_44 fX4_22 rfl rfl ?_
  refine AW_iconst dX4_copyFrom_47 ?_
  refine AW_bipush dX4_copyFrom_48 (by decide) ?_
  refine AW_copyi dX4_copyFrom_50 kX4_32 (Nat.le_of_ble_eq_true rfl) (by decide +kernel) (Nat.le_of_ble_eq_true rfl) rfl rfl ⟨Nat.le_of_ble_eq_true rfl, Nat.le_of_ble_eq_true rfl⟩ (by decide) ?_
  refine AW_aload_n dX4_copyFrom_53 rfl ?_
  refine AW_get dX4_copyFrom_54 fX4_25 rfl rfl ?_
  refine AW_iconst dX4_copyFrom_57 ?_
  refine AW_aload_n dX4_copyFrom_58 rfl ?_
  refine AW_get dX4_copyFrom_59 fX4_25 rfl rfl ?_
  refine AW_iconst dX4_copyFrom_62 ?_
  refine AW_bipush dX4_copyFrom_63 (by decide) ?_
  refine AW_copyi dX4_copyFrom_65 kX4_32 (Nat.le_of_ble_eq_true rfl) (by decide +kernel) (Nat.le_of_ble_eq_true rfl) rfl rfl ⟨Nat.le_of_ble_eq_true rfl, Nat.le_of_ble_eq_true rfl⟩ (by decide) ?_
  refine AW_aload_n dX4_copyFrom_68 rfl ?_
  refine AW_get dX4_copyFrom_69 fX4_28 rfl rfl ?_
  refine AW_iconst dX4_copyFrom_72 ?_
  refine AW_aload_n dX4_copyFrom_73 rfl ?_
  refine AW_get dX4_copyFrom_74 fX4_28 rfl rfl ?_
  refine AW_iconst dX4_copyFrom_77 ?_
  refine AW_bipush dX4_copyFrom_78 (by decide) ?_
  refine AW_copyl dX4_copyFrom_80 kX4_32 (Nat.le_of_ble_eq_true rfl) (by decide +kernel) (Nat.le_of_ble_eq_true rfl) rfl rfl ⟨Nat.le_of_ble_eq_true rfl, Nat.le_of_ble_eq_true rfl⟩ (by decide) ?_
  refine AW_vret dX4_copyFrom_83 rfl ?_
  exact ⟨rfl, rfl⟩
theorem c_cpS_2_36 {σ : am_S} : Runs am_tab mX3_copyFrom [vR 2, vR 36] σ (QV (fun σ' => σ' = cpS σ 2 36)) := by
  refine Runs.of (by decide) rfl (by simp) (Nat.le_of_ble_eq_true rfl) ?_
  show AW am_tab mX3_copyFrom 0 [some (vR 2), some (vR 36)] [] σ _
  refine AW_aload_n dX3_copyFrom_0 rfl ?_
  refine AW_get dX3_copyFrom_1 fX3_12 rfl rfl ?_
  refine AW_aload_n dX3_copyFrom_4 rfl ?_
  refine AW_get dX3_copyFrom_5 fX3_12 rfl rfl ?_
  refine AW_cVV1 dX3_copyFrom_8 kX3_39 (am_fit_b rfl) rfl rfl (Nat.le_of_ble_eq_true rfl) (c_cpB_2_36) (fun σ' hq2 => ?_)
  replace hq2 := hq2.symm
  subst hq2
  refine AW_aload_n dX3_copyFrom_11 rfl ?_
  refine AW_get dX3_copyFrom_12 fX3_21 rfl rfl ?_
  refine AW_aload_n dX3_copyFrom_15 rfl ?_
  refine AW_get dX3_copyFrom_16 fX3_21 rfl rfl ?_
  refine AW_cVV1 dX3_copyFrom_19 kX3_43 (am_fit_b rfl) rfl rfl (Nat.le_of_ble_eq_true rfl) (c_cpT_2_36) (fun σ' hq2 => ?_)
  replace hq2 := hq2.symm
  subst hq2
  refine AW_aload_n dX3_copyFrom_22 rfl ?_
  refine AW_get dX3_copyFrom_23 fX3_28 rfl rfl ?_
  refine AW_aload_n dX3_copyFrom_26 rfl ?_
  refine AW_get dX3_copyFrom_27 fX3_28 rfl rfl ?_
  refine AW_cVV1 dX3_copyFrom_30 kX3_46 (am_fit_b rfl) rfl rfl (Nat.le_of_ble_eq_true rfl) (c_cpA_2_36) (fun σ' hq2 => ?_)
  replace hq2 := hq2.symm
  subst hq2
  refine AW_aload_n dX3_copyFrom_33 rfl ?_
  refine AW_aload_n dX3_copyFrom_34 rfl ?_
  refine AW_get dX3_copyFrom_35 fX3_32 rfl rfl ?_
  refine AW_put dX3_copyFrom_38 pX3_32 rfl rfl rfl rfl ?_
  refine AW_aload_n dX3_copyFrom_41 rfl ?_
  refine AW_aload_n dX3_copyFrom_42 rfl ?_
  refine AW_get dX3_copyFrom_43 fX3_36 rfl rfl ?_
  refine AW_put dX3_copyFrom_46 pX3_36 rfl rfl rfl rfl ?_
  refine AW_vret dX3_copyFrom_49 rfl ?_
  exact ⟨rfl, rfl⟩
theorem cpA_off {σ : am_S} {d s a : Nat} (h : a < d ∨ d + 5 < a) : (cpA σ d s).1 a = σ.1 a := by
  unfold cpA
  rw [am_cp_other (by omega), am_cp_other (by omega), am_cp_other (by omega), am_cp_other (by omega), am_cp_other (by omega)]
theorem cpA_o2 {σ : am_S} {d s : Nat} : (cpA σ d s).2 = σ.2 := rfl
theorem cpB_off {σ : am_S} {d s a : Nat} (h : a < d ∨ d + 3 < a) : (cpB σ d s).1 a = σ.1 a := by
  unfold cpB cpB0
  rw [am_cp_other (by omega), am_cp_other (by omega), am_cp_other (by omega), am_up_other (by omega), am_up_other (by omega)]
theorem cpB_o2 {σ : am_S} {d s : Nat} : (cpB σ d s).2 = σ.2 := rfl
theorem cpT_off {σ : am_S} {d s a : Nat} (h : a < d ∨ d + 4 < a) : (cpT σ d s).1 a = σ.1 a := by
  show (cpT0 σ d s).1 a = _
  unfold cpT0
  rw [am_cp_other (by omega), am_cp_other (by omega), am_cp_other (by omega), am_cp_other (by omega), am_up_other (by omega)]
theorem cpT_o2 {σ : am_S} {d s a : Nat} (h : a ≠ d + 5) : (cpT σ d s).2 a = σ.2 a := by
  funext j
  show (if a = d + 5 ∧ _ then _ else σ.2 a j) = _
  exact if_neg (fun e => h e.1)
theorem cpS_off {σ : am_S} {d s a : Nat} (h : a < d ∨ d + 17 ≤ a) : (cpS σ d s).1 a = σ.1 a := by
  unfold cpS
  rw [am_up_other (by omega), am_up_other (by omega)]
  unfold cpS0
  rw [cpA_off (by omega), cpT_off (by omega), cpB_off (by omega)]
theorem cpS_o2 {σ : am_S} {d s a : Nat} (h : a ≠ d + 10) : (cpS σ d s).2 a = σ.2 a := by
  show (cpT (cpB σ (d + 1) (s + 1)) (d + 5) (s + 5)).2 a = _
  rw [cpT_o2 (by omega), cpB_o2]
theorem cp_in {σ : am_S} {a0 a n j : Nat} (h : j < n) : (am_cp σ a0 a 0 0 n).1 a j = σ.1 a0 j := by
  rw [am_cp_at, if_pos (by omega), Nat.zero_add, Nat.sub_zero]
theorem cpA_at {σ : am_S} {d s j : Nat} (h : d + 5 < s ∨ s + 5 < d) (hj : j < 4) : (cpA σ d s).1 (d + 1) j = σ.1 (s + 1) j ∧ (cpA σ d s).1 (d + 2) j = σ.1 (s + 2) j ∧ (cpA σ d s).1 (d + 3) j = σ.1 (s + 3) j ∧ (cpA σ d s).1 (d + 4) j = σ.1 (s + 4) j ∧ (cpA σ d s).1 (d + 5) j = σ.1 (s + 5) j := by
  unfold cpA
  refine ⟨?_, ?_, ?_, ?_, ?_⟩
  · rw [am_cp_other (by omega), am_cp_other (by omega), am_cp_other (by omega), am_cp_other (by omega), cp_in hj]
  · rw [am_cp_other (by omega), am_cp_other (by omega), am_cp_other (by omega), cp_in hj, am_cp_other (by omega)]
  · rw [am_cp_other (by omega), am_cp_other (by omega), cp_in hj, am_cp_other (by omega), am_cp_other (by omega)]
  · rw [am_cp_other (by omega), cp_in hj, am_cp_other (by omega), am_cp_other (by omega), am_cp_other (by omega)]
  · rw [cp_in hj, am_cp_other (by omega), am_cp_other (by omega), am_cp_other (by omega), am_cp_other (by omega)]
theorem cpB_at {σ : am_S} {d s : Nat} (h : d + 5 < s ∨ s + 5 < d) : ((cpB σ d s).1 d 0 = σ.1 s 0 ∧ (cpB σ d s).1 d 1 = σ.1 s 1) ∧ (∀ j, j < 8 → (cpB σ d s).1 (d + 1) j = σ.1 (s + 1) j ∧ (cpB σ d s).1 (d + 2) j = σ.1 (s + 2) j) ∧ ∀ j, j < 301 → (cpB σ d s).1 (d + 3) j = σ.1 (s + 3) j := by
  unfold cpB
  refine ⟨?_, fun j hj => ⟨?_, ?_⟩, fun j hj => ?_⟩
  · rw [am_cp_other (by omega), am_cp_other (by omega), am_cp_other (by omega)]
    unfold cpB0
    rw [am_up_same]
    constructor
    · rw [rup_ne (by decide), am_up_same, rup_at]
    · rw [rup_at, am_up_other (by omega)]
  · rw [am_cp_other (by omega), am_cp_other (by omega), cp_in hj]
    unfold cpB0
    rw [am_up_other (by omega), am_up_other (by omega)]
  · rw [am_cp_other (by omega), cp_in hj, am_cp_other (by omega)]
    unfold cpB0
    rw [am_up_other (by omega), am_up_other (by omega)]
  · rw [cp_in hj, am_cp_other (by omega), am_cp_other (by omega)]
    unfold cpB0
    rw [am_up_other (by omega), am_up_other (by omega)]
theorem cpT_at {σ : am_S} {d s : Nat} (h : d + 5 < s ∨ s + 5 < d) : (cpT σ d s).1 d 0 = σ.1 s 0 ∧ (∀ j, j < 20 → (cpT σ d s).1 (d + 1) j = σ.1 (s + 1) j ∧ (cpT σ d s).1 (d + 2) j = σ.1 (s + 2) j ∧ (cpT σ d s).1 (d + 3) j = σ.1 (s + 3) j ∧ (cpT σ d s).1 (d + 4) j = σ.1 (s + 4) j) ∧ ∀ j, j < 100 → (cpT σ d s).2 (d + 5) j = σ.2 (s + 5) j := by
  refine ⟨?_, fun j hj => ?_, fun j hj => ?_⟩
  · show (cpT0 σ d s).1 d 0 = _
    unfold cpT0
    rw [am_cp_other (by omega), am_cp_other (by omega), am_cp_other (by omega), am_cp_other (by omega), am_up_same, rup_at]
  · show (cpT0 σ d s).1 (d + 1) j = _ ∧ (cpT0 σ d s).1 (d + 2) j = _ ∧ (cpT0 σ d s).1 (d + 3) j = _ ∧ (cpT0 σ d s).1 (d + 4) j = _
    unfold cpT0
    refine ⟨?_, ?_, ?_, ?_⟩
    · rw [am_cp_other (by omega), am_cp_other (by omega), am_cp_other (by omega), cp_in hj, am_up_other (by omega)]
    · rw [am_cp_other (by omega), am_cp_other (by omega), cp_in hj, am_cp_other (by omega), am_up_other (by omega)]
    · rw [am_cp_other (by omega), cp_in hj, am_cp_other (by omega), am_cp_other (by omega), am_up_other (by omega)]
    · rw [cp_in hj, am_cp_other (by omega), am_cp_other (by omega), am_cp_other (by omega), am_up_other (by omega)]
  · show (if d + 5 = d + 5 ∧ 0 ≤ j ∧ j < 0 + 100 then σ.2 (s + 5) (0 + (j - 0)) else _) = _
    rw [if_pos (by omega), Nat.zero_add, Nat.sub_zero]
theorem cpS_same {σ : am_S} {b c : Nat} (h : b + 17 ≤ c ∨ c + 17 ≤ b) : SameS (shS σ c) (shS (cpS σ (2 + b) (2 + c)) b) := by
  have eB := cpB_at (σ := σ) (d := 2 + b + 1) (s := 2 + c + 1) (by omega)
  have eT := cpT_at (σ := cpB σ (2 + b + 1) (2 + c + 1)) (d := 2 + b + 5) (s := 2 + c + 5) (by omega)
  have eA := fun j (hj : j < 4) => cpA_at (σ := cpT (cpB σ (2 + b + 1) (2 + c + 1)) (2 + b + 5) (2 + c + 5)) (d := 2 + b + 11) (s := 2 + c + 11) (j := j) (by omega) hj
  have up : ∀ a, a ≠ 2 + b → (cpS σ (2 + b) (2 + c)).1 a = (cpS0 σ (2 + b) (2 + c)).1 a := fun a ha => by
    unfold cpS
    rw [am_up_other ha, am_up_other ha]
  have toT : ∀ a, (a < 2 + b + 11 ∨ 2 + b + 16 < a) → (cpS0 σ (2 + b) (2 + c)).1 a = (cpT (cpB σ (2 + b + 1) (2 + c + 1)) (2 + b + 5) (2 + c + 5)).1 a := fun a ha => cpA_off (by omega)
  have toB : ∀ a, (a < 2 + b + 5 ∨ 2 + b + 9 < a) → (cpT (cpB σ (2 + b + 1) (2 + c + 1)) (2 + b + 5) (2 + c + 5)).1 a = (cpB σ (2 + b + 1) (2 + c + 1)).1 a := fun a ha => cpT_off (by omega)
  have to0 : ∀ a, (a < 2 + b + 1 ∨ 2 + b + 4 < a) → (cpB σ (2 + b + 1) (2 + c + 1)).1 a = σ.1 a := fun a ha => cpB_off (by omega)
  have src : ∀ a, (2 + c ≤ a ∧ a ≤ 18 + c) → (cpS0 σ (2 + b) (2 + c)).1 a = σ.1 a := fun a ha => by
    rw [toT a (by omega), toB a (by omega), to0 a (by omega)]
  have row : ∀ k, (shS (cpS σ (2 + b) (2 + c)) b).1 k = (cpS σ (2 + b) (2 + c)).1 (k + b) := fun _ => rfl
  have row0 : ∀ k, (shS σ c).1 k = σ.1 (k + c) := fun _ => rfl
  refine ⟨⟨?_, ?_⟩, ⟨?_, ?_, fun i hi => ⟨?_, ?_⟩⟩, fun t ht => ?_, ⟨?_, fun k hk => ⟨?_, ?_, ?_, ?_⟩⟩, fun j hj => ?_, fun a ha => ⟨?_, ?_, ?_, ?_, ?_⟩⟩
  · rw [row, row0]
    unfold cpS
    rw [am_up_same, rup_ne (by decide), am_up_same, rup_at, src _ (by omega)]
  · rw [row, row0]
    unfold cpS
    rw [am_up_same, rup_at, am_up_other (by omega), src _ (by omega)]
  · rw [row, row0, up _ (by omega), toT _ (by omega), toB _ (by omega), show 3 + b = 2 + b + 1 by omega, show 3 + c = 2 + c + 1 by omega]
    exact eB.1.1
  · rw [row, row0, up _ (by omega), toT _ (by omega), toB _ (by omega), show 3 + b = 2 + b + 1 by omega, show 3 + c = 2 + c + 1 by omega]
    exact eB.1.2
  · rw [row, row0, up _ (by omega), toT _ (by omega), toB _ (by omega), show 4 + b = 2 + b + 1 + 1 by omega, show 4 + c = 2 + c + 1 + 1 by omega]
    exact (eB.2.1 i hi).1
  · rw [row, row0, up _ (by omega), toT _ (by omega), toB _ (by omega), show 5 + b = 2 + b + 1 + 2 by omega, show 5 + c = 2 + c + 1 + 2 by omega]
    exact (eB.2.1 i hi).2
  · rw [row, row0, up _ (by omega), toT _ (by omega), toB _ (by omega), show 6 + b = 2 + b + 1 + 3 by omega, show 6 + c = 2 + c + 1 + 3 by omega]
    exact eB.2.2 t ht
  · rw [row, row0, up _ (by omega), toT _ (by omega), show 7 + b = 2 + b + 5 by omega, show 7 + c = 2 + c + 5 by omega, eT.1, to0 _ (by omega)]
  · rw [row, row0, up _ (by omega), toT _ (by omega), show 8 + b = 2 + b + 5 + 1 by omega, show 8 + c = 2 + c + 5 + 1 by omega, (eT.2.1 k hk).1, to0 _ (by omega)]
  · rw [row, row0, up _ (by omega), toT _ (by omega), show 9 + b = 2 + b + 5 + 2 by omega, show 9 + c = 2 + c + 5 + 2 by omega, (eT.2.1 k hk).2.1, to0 _ (by omega)]
  · rw [row, row0, up _ (by omega), toT _ (by omega), show 10 + b = 2 + b + 5 + 3 by omega, show 10 + c = 2 + c + 5 + 3 by omega, (eT.2.1 k hk).2.2.1, to0 _ (by omega)]
  · rw [row, row0, up _ (by omega), toT _ (by omega), show 11 + b = 2 + b + 5 + 4 by omega, show 11 + c = 2 + c + 5 + 4 by omega, (eT.2.1 k hk).2.2.2, to0 _ (by omega)]
  · show (cpT (cpB σ (2 + b + 1) (2 + c + 1)) (2 + b + 5) (2 + c + 5)).2 (12 + b) j = σ.2 (12 + c) j
    rw [show 12 + b = 2 + b + 5 + 5 by omega, show 12 + c = 2 + c + 5 + 5 by omega, eT.2.2 j hj, cpB_o2]
  · rw [row, row0, up _ (by omega), show 14 + b = 2 + b + 11 + 1 by omega, show 14 + c = 2 + c + 11 + 1 by omega]
    exact ((eA a ha).1).trans (by rw [toB _ (by omega), to0 _ (by omega)])
  · rw [row, row0, up _ (by omega), show 15 + b = 2 + b + 11 + 2 by omega, show 15 + c = 2 + c + 11 + 2 by omega]
    exact ((eA a ha).2.1).trans (by rw [toB _ (by omega), to0 _ (by omega)])
  · rw [row, row0, up _ (by omega), show 16 + b = 2 + b + 11 + 3 by omega, show 16 + c = 2 + c + 11 + 3 by omega]
    exact ((eA a ha).2.2.1).trans (by rw [toB _ (by omega), to0 _ (by omega)])
  · rw [row, row0, up _ (by omega), show 17 + b = 2 + b + 11 + 4 by omega, show 17 + c = 2 + c + 11 + 4 by omega]
    exact ((eA a ha).2.2.2.1).trans (by rw [toB _ (by omega), to0 _ (by omega)])
  · rw [row, row0, up _ (by omega), show 18 + b = 2 + b + 11 + 5 by omega, show 18 + c = 2 + c + 11 + 5 by omega]
    exact ((eA a ha).2.2.2.2).trans (by rw [toB _ (by omega), to0 _ (by omega)])
