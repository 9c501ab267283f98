/-! ===== THE CLASS: a THING's chances ===== -/
/-- beats: from M on, and till M -/
theorem bf_spec {o M b : Int} (hb : 0 < b) : b ∣ (M + (o - M) % b) - o ∧ M ≤ M + (o - M) % b ∧ M + (o - M) % b < M + b ∧ ∀ t, M ≤ t → b ∣ t - o → M + (o - M) % b ≤ t := by
  have h1 := Int.emod_nonneg (o - M) (show b ≠ 0 by omega)
  have h2 := Int.emod_lt_of_pos (o - M) hb
  have hd : b ∣ (M + (o - M) % b) - o := by
    have := Int.dvd_emod_sub_self (x := o - M) (m := b)
    rwa [show (o - M) % b - (o - M) = (M + (o - M) % b) - o by omega] at this
  refine ⟨hd, by omega, by omega, fun t ht hto => ?_⟩
  by_cases q : M + (o - M) % b ≤ t
  · exact q
  · have h3 := Int.dvd_sub hd hto
    have h4 := Int.le_of_dvd (by omega) h3
    omega
theorem bt_spec {o M b : Int} (hb : 0 < b) : b ∣ (M - (M - o) % b) - o ∧ M - (M - o) % b ≤ M ∧ M - b < M - (M - o) % b ∧ ∀ t, t ≤ M → b ∣ t - o → t ≤ M - (M - o) % b := by
  have h1 := Int.emod_nonneg (M - o) (show b ≠ 0 by omega)
  have h2 := Int.emod_lt_of_pos (M - o) hb
  have hd : b ∣ (M - (M - o) % b) - o := by
    have := Int.dvd_self_sub_emod (x := M - o) (m := b)
    rwa [show (M - o) - (M - o) % b = (M - (M - o) % b) - o by omega] at this
  refine ⟨hd, by omega, by omega, fun t ht hto => ?_⟩
  by_cases q : t ≤ M - (M - o) % b
  · exact q
  · have h3 := Int.dvd_sub hto hd
    have h4 := Int.le_of_dvd (by omega) h3
    omega
/-- the class's THINGS are those of the row X, what was SEEN aside -/
def TO (σ : am_S) (X : Row) : Prop := σ.1 7 0 = X 6423 ∧ ∀ k : Nat, (k : Int) < X 6423 → σ.1 8 k = X (301 + k) ∧ σ.1 9 k = X (321 + k) ∧ σ.1 10 k = X (341 + k) ∧ σ.1 11 k = X (361 + k)
theorem plc_0 {X : Row} {k t : Nat} : plc X k t = plc X k 0 + gn X t := by
  unfold plc
  rw [show gn X 0 = 0 from rfl]
  omega
def laneB (X : Row) (a k : Nat) : Prop := X (6417 + a) / 2 ^ (X (321 + k)).toNat % 2 = 1
def FC (X : Row) (a k : Nat) (z : Int) : Prop := X (6409 + a) ∣ z - X (6413 + a) ∧ (1 ≤ z ∧ z ≤ 321) ∧ ∀ t : Nat, t ≤ 300 → (X (6401 + a) ≤ plc X k t → X (301 + k) < t → X (6409 + a) ∣ (t : Int) - X (6413 + a) → z ≤ t) ∧ (z ≤ t → X (6401 + a) ≤ plc X k t ∧ X (301 + k) < t)
def LC (X : Row) (a k : Nat) (z : Int) : Prop := (¬ laneB X a k ∧ z = -1) ∨ (laneB X a k ∧ X (6409 + a) ∣ z - X (6413 + a) ∧ (-21 ≤ z ∧ z ≤ 300) ∧ ∀ t : Nat, t ≤ 300 → (plc X k t ≤ X (6405 + a) → X (6409 + a) ∣ (t : Int) - X (6413 + a) → t ≤ z) ∧ (t ≤ z → plc X k t ≤ X (6405 + a)))
theorem can_dvd {X : Row} {a t : Nat} : ((t : Int) - X (6413 + a)).tmod (X (6409 + a)) = 0 ↔ X (6409 + a) ∣ (t : Int) - X (6413 + a) := Int.dvd_iff_tmod_eq_zero.symm
/-- an ARM's chances lie between its first and its last, at its beats -/
theorem can_iff {X : Row} {a k t : Nat} {F L : Int} (hF : FC X a k F) (hL : LC X a k L) (ht : t ≤ 300) : canB X a k t = true ↔ F ≤ t ∧ t ≤ L ∧ X (6409 + a) ∣ (t : Int) - X (6413 + a) := by
  unfold canB
  rw [decide_eq_true_eq, can_dvd]
  constructor
  · rintro ⟨h1, h2, h3, h4, h5⟩
    rcases hL with ⟨q, _⟩ | ⟨_, _, _, q⟩
    · exact absurd h2 q
    · exact ⟨(hF.2.2 t ht).1 h4 h3 h1, (q t ht).1 h5 h1, h1⟩
  · rintro ⟨h1, h2, h3⟩
    rcases hL with ⟨_, q⟩ | ⟨g, _, _, q⟩
    · have := hF.2.1.1; omega
    · obtain ⟨g1, g2⟩ := (hF.2.2 t ht).2 h1
      exact ⟨h3, g, g2, g1, (q t ht).2 h2⟩
theorem c_placeAt {σ : am_S} {X : Row} (hS : WS X) (hT : WT X) (hTO : TO σ X) (hG : GO σ X) {k t : Nat} (hk : (k : Int) < X 6423) (ht : t ≤ 300) : Runs am_tab mX3_placeAt [vR 2, vI k, vI t] σ (QI (fun z σ' => z = plc X k t ∧ σ' = σ)) := by
  refine Runs.of (by decide) rfl (by simp) (Nat.le_of_ble_eq_true rfl) ?_
  show AW am_tab mX3_placeAt 0 [some (vR 2), some (vI k), some (vI t)] [] σ _
  have hk2 := hT.2 k hk
  have hM := hT.1
  have hko := hTO.2 k hk
  refine AW_aload_n dX3_placeAt_0 rfl ?_
  refine AW_get dX3_placeAt_1 fX3_21 rfl rfl ?_
  refine AW_get dX3_placeAt_4 fX3_49 rfl rfl ?_
  refine AW_iload_n dX3_placeAt_7 rfl ?_
  refine AW_ialdN (j := k) dX3_placeAt_8 rfl (Nat.le_of_ble_eq_true rfl) (by omega) (by omega) ?_
  rw [hko.2.2.1]
  refine AW_aload_n dX3_placeAt_9 rfl ?_
  refine AW_get dX3_placeAt_10 fX3_12 rfl rfl ?_
  refine AW_get dX3_placeAt_13 fX3_53 rfl rfl ?_
  refine AW_iload_n dX3_placeAt_16 rfl ?_
  refine AW_ialdN (j := t) dX3_placeAt_17 rfl (Nat.le_of_ble_eq_true rfl) (by omega) (by omega) ?_
  rw [hG t ht]
  refine AW_iadd dX3_placeAt_18 ?_
  refine AW_aload_n dX3_placeAt_19 rfl ?_
  refine AW_get dX3_placeAt_20 fX3_12 rfl rfl ?_
  refine AW_get dX3_placeAt_23 fX3_53 rfl rfl ?_
  refine AW_aload_n dX3_placeAt_26 rfl ?_
  refine AW_get dX3_placeAt_27 fX3_21 rfl rfl ?_
  refine AW_get dX3_placeAt_30 fX3_56 rfl rfl ?_
  refine AW_iload_n dX3_placeAt_33 rfl ?_
  refine AW_ialdN (j := k) dX3_placeAt_34 rfl (Nat.le_of_ble_eq_true rfl) (by omega) (by omega) ?_
  rw [hko.1]
  refine AW_ialdN (j := (X (301 + k)).toNat) dX3_placeAt_35 rfl (Nat.le_of_ble_eq_true rfl) (by omega) (by omega) ?_
  rw [hG _ (by omega)]
  refine AW_isub dX3_placeAt_36 ?_
  refine AW_iret dX3_placeAt_37 rfl ?_
  exact ⟨_, rfl, rfl, rfl⟩
theorem c_canTake {σ : am_S} {X : Row} (hS : WS X) (hT : WT X) (hTO : TO σ X) (hG : GO σ X) (hAO : AO σ X) (hA : WA X) {a k : Nat} (ha : a < 4) (hk : (k : Int) < X 6423) {t : Nat} (ht : t ≤ 300) : Runs am_tab mX3_canTake [vR 2, vI a, vI k, vI t] σ (QB (canB X a k t = true) σ) := by
  refine Runs.of (by decide) rfl (by simp) (Nat.le_of_ble_eq_true rfl) ?_
  show AW am_tab mX3_canTake 0 [some (vR 2), some (vI a), some (vI k), some (vI t)] [] σ _
  have hk2 := hT.2 k hk
  have hM := hT.1
  have hko := hTO.2 k hk
  have hb := hA.1 a ha
  have ho := hAO a ha
  have hp := plc_b hS hT hk ht
  have hdv : X (6409 + a) ∣ (t : Int) - X (6413 + a) ↔ (X (6413 + a) - (t : Int)) % X (6409 + a) = 0 := by
    rw [← Int.dvd_iff_emod_eq_zero, ← Int.dvd_neg, show -((t : Int) - X (6413 + a)) = X (6413 + a) - (t : Int) by omega]
  refine AW_aload_n dX3_canTake_0 rfl ?_
  refine AW_get dX3_canTake_1 fX3_28 rfl rfl ?_
  refine AW_iload_n dX3_canTake_4 rfl ?_
  refine AW_iload_n dX3_canTake_5 rfl ?_
  refine AW_cVI2 dX3_canTake_6 kX3_82 (am_fit_b rfl) rfl rfl (Nat.le_of_ble_eq_true rfl) (c_hasBeatAt hAO hA ha (by omega)) (fun z σ' hq => ?_)
  obtain ⟨rfl, ⟨rfl, h6⟩ | ⟨rfl, h6⟩⟩ := hq
  · refine AW_if_eq 66 dX3_canTake_9 (by decide) (by decide) (fun h => absurd h (by decide)) (fun _ => ?_)
    refine AW_iload_n dX3_canTake_12 rfl ?_
    refine AW_aload_n dX3_canTake_13 rfl ?_
    refine AW_get dX3_canTake_14 fX3_21 rfl rfl ?_
    refine AW_get dX3_canTake_17 fX3_56 rfl rfl ?_
    refine AW_iload_n dX3_canTake_20 rfl ?_
    refine AW_ialdN (j := k) dX3_canTake_21 rfl (Nat.le_of_ble_eq_true rfl) (by omega) (by omega) ?_
    rw [hko.1]
    refine AW_icmp_le 66 dX3_canTake_22 (by decide) (by omega) (by omega) (fun h22 => ?_) (fun h22 => ?_)
    · refine AW_iconst dX3_canTake_66 ?_
      refine AW_zret dX3_canTake_67 rfl (by first | exact Or.inl rfl | exact Or.inr rfl) ?_
      refine ⟨_, rfl, rfl, Or.inr ⟨rfl, fun q => ?_⟩⟩
      unfold canB at q
      rw [decide_eq_true_eq, can_dvd] at q
      have := q.2.2.1
      omega
    · refine AW_aload_n dX3_canTake_25 rfl ?_
      refine AW_get dX3_canTake_26 fX3_28 rfl rfl ?_
      refine AW_iload_n dX3_canTake_29 rfl ?_
      refine AW_aload_n dX3_canTake_30 rfl ?_
      refine AW_get dX3_canTake_31 fX3_21 rfl rfl ?_
      refine AW_get dX3_canTake_34 fX3_62 rfl rfl ?_
      refine AW_iload_n dX3_canTake_37 rfl ?_
      refine AW_ialdN (j := k) dX3_canTake_38 rfl (Nat.le_of_ble_eq_true rfl) (by omega) (by omega) ?_
      rw [hko.2.1]
      refine AW_cVI2 dX3_canTake_39 kX3_85 (am_fit_b rfl) rfl rfl (Nat.le_of_ble_eq_true rfl) (c_hasLane hAO hA ha hk2.2.1) (fun z σ' hq => ?_)
      obtain ⟨rfl, ⟨rfl, h39⟩ | ⟨rfl, h39⟩⟩ := hq
      · refine AW_if_eq 66 dX3_canTake_42 (by decide) (by decide) (fun h => absurd h (by decide)) (fun _ => ?_)
        refine AW_aload_n dX3_canTake_45 rfl ?_
        refine AW_get dX3_canTake_46 fX3_28 rfl rfl ?_
        refine AW_iload_n dX3_canTake_49 rfl ?_
        refine AW_aload_n dX3_canTake_50 rfl ?_
        refine AW_iload_n dX3_canTake_51 rfl ?_
        refine AW_iload_n dX3_canTake_52 rfl ?_
        refine AW_cVI2 dX3_canTake_53 kX3_72 (am_fit_b rfl) rfl rfl (Nat.le_of_ble_eq_true rfl) (c_placeAt hS hT hTO hG hk ht) (fun z σ' hq => ?_)
        obtain ⟨hz, hs⟩ := hq
        replace hz := hz.symm
        subst hz
        replace hs := hs.symm
        subst hs
        refine AW_cVI2 dX3_canTake_56 kX3_88 (am_fit_b rfl) rfl rfl (Nat.le_of_ble_eq_true rfl) (c_reaches hAO hA ha (by omega)) (fun z σ' hq => ?_)
        obtain ⟨rfl, ⟨rfl, h56⟩ | ⟨rfl, h56⟩⟩ := hq
        · refine AW_if_eq 66 dX3_canTake_59 (by decide) (by decide) (fun h => absurd h (by decide)) (fun _ => ?_)
          refine AW_iconst dX3_canTake_62 ?_
          refine AW_goto (tgt := 67) dX3_canTake_63 (by decide) ?_
          refine AW_zret dX3_canTake_67 rfl (by first | exact Or.inl rfl | exact Or.inr rfl) ?_
          refine ⟨_, rfl, rfl, Or.inl ⟨rfl, ?_⟩⟩
          unfold canB
          rw [decide_eq_true_eq, can_dvd]
          exact ⟨hdv.mpr h6, h39, by omega, h56.1, h56.2⟩
        · refine AW_if_eq 66 dX3_canTake_59 (by decide) (by decide) (fun _ => ?_) (fun h => absurd (by decide) h)
          refine AW_iconst dX3_canTake_66 ?_
          refine AW_zret dX3_canTake_67 rfl (by first | exact Or.inl rfl | exact Or.inr rfl) ?_
          refine ⟨_, rfl, rfl, Or.inr ⟨rfl, fun q => ?_⟩⟩
          unfold canB at q
          rw [decide_eq_true_eq, can_dvd] at q
          exact h56 q.2.2.2
      · refine AW_if_eq 66 dX3_canTake_42 (by decide) (by decide) (fun _ => ?_) (fun h => absurd (by decide) h)
        refine AW_iconst dX3_canTake_66 ?_
        refine AW_zret dX3_canTake_67 rfl (by first | exact Or.inl rfl | exact Or.inr rfl) ?_
        refine ⟨_, rfl, rfl, Or.inr ⟨rfl, fun q => ?_⟩⟩
        unfold canB at q
        rw [decide_eq_true_eq, can_dvd] at q
        exact h39 q.2.1
  · refine AW_if_eq 66 dX3_canTake_9 (by decide) (by decide) (fun _ => ?_) (fun h => absurd (by decide) h)
    refine AW_iconst dX3_canTake_66 ?_
    refine AW_zret dX3_canTake_67 rfl (by first | exact Or.inl rfl | exact Or.inr rfl) ?_
    refine ⟨_, rfl, rfl, Or.inr ⟨rfl, fun q => ?_⟩⟩
    unfold canB at q
    rw [decide_eq_true_eq, can_dvd] at q
    exact h6 (hdv.mp q.1)
theorem c_firstChanceOf {σ : am_S} {X : Row} (hS : WS X) (hT : WT X) (hTO : TO σ X) (hG : GO σ X) (hAO : AO σ X) (hA : WA X) {a k : Nat} (ha : a < 4) (hk : (k : Int) < X 6423) : Runs am_tab mX3_firstChanceOf [vR 2, vI a, vI k] σ (QI (fun z σ' => σ = σ' ∧ FC X a k z)) := by
  refine Runs.of (by decide) rfl (by simp) (Nat.le_of_ble_eq_true rfl) ?_
  show AW am_tab mX3_firstChanceOf 0 [some (vR 2), some (vI a), some (vI k), none] [] σ _
  have hk2 := hT.2 k hk
  have hM := hT.1
  have hko := hTO.2 k hk
  have hb := hA.1 a ha
  have ho := hAO a ha
  have hp := plc_b hS hT hk (t := 0) (by omega)
  refine AW_aload_n dX3_firstChanceOf_0 rfl ?_
  refine AW_get dX3_firstChanceOf_1 fX3_12 rfl rfl ?_
  refine AW_aload_n dX3_firstChanceOf_4 rfl ?_
  refine AW_get dX3_firstChanceOf_5 fX3_28 rfl rfl ?_
  refine AW_get dX3_firstChanceOf_8 fX3_91 rfl rfl ?_
  refine AW_iload_n dX3_firstChanceOf_11 rfl ?_
  refine AW_ialdN (j := a) dX3_firstChanceOf_12 rfl (Nat.le_of_ble_eq_true rfl) (by omega) (by omega) ?_
  rw [ho.1]
  refine AW_aload_n dX3_firstChanceOf_13 rfl ?_
  refine AW_iload_n dX3_firstChanceOf_14 rfl ?_
  refine AW_iconst dX3_firstChanceOf_15 ?_
  rw [show (0 : Int) = ((0 : Nat) : Int) from rfl]
  refine AW_cVI2 dX3_firstChanceOf_16 kX3_72 (am_fit_b rfl) rfl rfl (Nat.le_of_ble_eq_true rfl) (c_placeAt hS hT hTO hG hk (by omega)) (fun z σ' hq => ?_)
  obtain ⟨hz, hs⟩ := hq
  replace hz := hz.symm
  subst hz
  replace hs := hs.symm
  subst hs
  refine AW_isub dX3_firstChanceOf_19 ?_
  refine AW_cVI1 dX3_firstChanceOf_20 kX3_94 (am_fit_b rfl) rfl rfl (Nat.le_of_ble_eq_true rfl) (c_firstTickGone hS hG (by omega)) (fun z σ' hq => ?_)
  obtain ⟨hs, Bf, rfl, hB1, hB2, hB3⟩ := hq
  subst hs
  refine AW_istore_n (i := 3) (lv' := [_, _, _, _]) dX3_firstChanceOf_23 rfl (by decide) (Nat.le_of_ble_eq_true rfl) rfl ?_
  refine AW_aload_n dX3_firstChanceOf_24 rfl ?_
  refine AW_get dX3_firstChanceOf_25 fX3_28 rfl rfl ?_
  refine AW_iload_n dX3_firstChanceOf_28 rfl ?_
  refine AW_iload_n dX3_firstChanceOf_29 rfl ?_
  refine AW_aload_n dX3_firstChanceOf_30 rfl ?_
  refine AW_get dX3_firstChanceOf_31 fX3_21 rfl rfl ?_
  refine AW_get dX3_firstChanceOf_34 fX3_56 rfl rfl ?_
  refine AW_iload_n dX3_firstChanceOf_37 rfl ?_
  refine AW_ialdN (j := k) dX3_firstChanceOf_38 rfl (Nat.le_of_ble_eq_true rfl) (by omega) (by omega) ?_
  rw [hko.1]
  refine AW_iconst dX3_firstChanceOf_39 ?_
  refine AW_iadd dX3_firstChanceOf_40 ?_
  refine AW_cSI2 dX3_firstChanceOf_41 kX3_97 (am_fit_b rfl) (Nat.le_of_ble_eq_true rfl) (c_max (by omega) (by omega)) (fun z σ' hq => ?_)
  obtain ⟨hz, hs⟩ := hq
  replace hz := hz.symm
  subst hz
  replace hs := hs.symm
  subst hs
  refine AW_cVI2 dX3_firstChanceOf_44 kX3_100 (am_fit_b rfl) rfl rfl (Nat.le_of_ble_eq_true rfl) (c_beatFrom hAO hA ha (by omega)) (fun z σ' hq => ?_)
  obtain ⟨hz, hs⟩ := hq
  replace hz := hz.symm
  subst hz
  replace hs := hs.symm
  subst hs
  refine AW_iret dX3_firstChanceOf_47 rfl ?_
  have hbf := bf_spec (o := X (6413 + a)) (M := max (Bf : Int) (X (301 + k) + 1)) (b := X (6409 + a)) (by omega)
  refine ⟨_, rfl, rfl, hbf.1, by omega, fun t ht => ⟨fun h1 h2 h3 => hbf.2.2.2 t ?_ h3, fun h1 => ?_⟩⟩
  · rw [plc_0] at h1
    have : (Bf : Int) ≤ t := by
      by_cases q : t < Bf
      · have := hB2 t q; omega
      · omega
    omega
  · have h4 := hbf.2.1
    refine ⟨?_, by omega⟩
    rw [plc_0]
    have := hB3 t (by omega) ht
    omega
theorem c_lastChanceOf {σ : am_S} {X : Row} (hS : WS X) (hT : WT X) (hTO : TO σ X) (hG : GO σ X) (hAO : AO σ X) (hA : WA X) {a k : Nat} (ha : a < 4) (hk : (k : Int) < X 6423) : Runs am_tab mX3_lastChanceOf [vR 2, vI a, vI k] σ (QI (fun z σ' => σ = σ' ∧ LC X a k z)) := by
  refine Runs.of (by decide) rfl (by simp) (Nat.le_of_ble_eq_true rfl) ?_
  show AW am_tab mX3_lastChanceOf 0 [some (vR 2), some (vI a), some (vI k), none] [] σ _
  have hk2 := hT.2 k hk
  have hM := hT.1
  have hko := hTO.2 k hk
  have hb := hA.1 a ha
  have ho := hAO a ha
  have hp := plc_b hS hT hk (t := 0) (by omega)
  refine AW_aload_n dX3_lastChanceOf_0 rfl ?_
  refine AW_get dX3_lastChanceOf_1 fX3_28 rfl rfl ?_
  refine AW_iload_n dX3_lastChanceOf_4 rfl ?_
  refine AW_aload_n dX3_lastChanceOf_5 rfl ?_
  refine AW_get dX3_lastChanceOf_6 fX3_21 rfl rfl ?_
  refine AW_get dX3_lastChanceOf_9 fX3_62 rfl rfl ?_
  refine AW_iload_n dX3_lastChanceOf_12 rfl ?_
  refine AW_ialdN (j := k) dX3_lastChanceOf_13 rfl (Nat.le_of_ble_eq_true rfl) (by omega) (by omega) ?_
  rw [hko.2.1]
  refine AW_cVI2 dX3_lastChanceOf_14 kX3_85 (am_fit_b rfl) rfl rfl (Nat.le_of_ble_eq_true rfl) (c_hasLane hAO hA ha hk2.2.1) (fun z σ' hq => ?_)
  obtain ⟨rfl, ⟨rfl, h14⟩ | ⟨rfl, h14⟩⟩ := hq
  · refine AW_if_ne 22 dX3_lastChanceOf_17 (by decide) (by decide) (fun _ => ?_) (fun h => absurd (by decide) h)
    refine AW_aload_n dX3_lastChanceOf_22 rfl ?_
    refine AW_get dX3_lastChanceOf_23 fX3_12 rfl rfl ?_
    refine AW_aload_n dX3_lastChanceOf_26 rfl ?_
    refine AW_get dX3_lastChanceOf_27 fX3_28 rfl rfl ?_
    refine AW_get dX3_lastChanceOf_30 fX3_103 rfl rfl ?_
    refine AW_iload_n dX3_lastChanceOf_33 rfl ?_
    refine AW_ialdN (j := a) dX3_lastChanceOf_34 rfl (Nat.le_of_ble_eq_true rfl) (by omega) (by omega) ?_
    rw [ho.2.1]
    refine AW_iconst dX3_lastChanceOf_35 ?_
    refine AW_iadd dX3_lastChanceOf_36 ?_
    refine AW_aload_n dX3_lastChanceOf_37 rfl ?_
    refine AW_iload_n dX3_lastChanceOf_38 rfl ?_
    refine AW_iconst dX3_lastChanceOf_39 ?_
    rw [show (0 : Int) = ((0 : Nat) : Int) from rfl]
    refine AW_cVI2 dX3_lastChanceOf_40 kX3_72 (am_fit_b rfl) rfl rfl (Nat.le_of_ble_eq_true rfl) (c_placeAt hS hT hTO hG hk (by omega)) (fun z σ' hq => ?_)
    obtain ⟨hz, hs⟩ := hq
    replace hz := hz.symm
    subst hz
    replace hs := hs.symm
    subst hs
    refine AW_isub dX3_lastChanceOf_43 ?_
    refine AW_cVI1 dX3_lastChanceOf_44 kX3_94 (am_fit_b rfl) rfl rfl (Nat.le_of_ble_eq_true rfl) (c_firstTickGone hS hG (by omega)) (fun z σ' hq => ?_)
    obtain ⟨hs, Bf, rfl, hB1, hB2, hB3⟩ := hq
    subst hs
    refine AW_istore_n (i := 3) (lv' := [_, _, _, _]) dX3_lastChanceOf_47 rfl (by decide) (Nat.le_of_ble_eq_true rfl) rfl ?_
    refine AW_aload_n dX3_lastChanceOf_48 rfl ?_
    refine AW_get dX3_lastChanceOf_49 fX3_28 rfl rfl ?_
    refine AW_iload_n dX3_lastChanceOf_52 rfl ?_
    refine AW_iload_n dX3_lastChanceOf_53 rfl ?_
    refine AW_iconst dX3_lastChanceOf_54 ?_
    refine AW_isub dX3_lastChanceOf_55 ?_
    refine AW_cVI2 dX3_lastChanceOf_56 kX3_106 (am_fit_b rfl) rfl rfl (Nat.le_of_ble_eq_true rfl) (c_beatTill hAO hA ha (by omega)) (fun z σ' hq => ?_)
    obtain ⟨hz, hs⟩ := hq
    replace hz := hz.symm
    subst hz
    replace hs := hs.symm
    subst hs
    refine AW_iret dX3_lastChanceOf_59 rfl ?_
    have hbt := bt_spec (o := X (6413 + a)) (M := (Bf : Int) - 1) (b := X (6409 + a)) (by omega)
    refine ⟨_, rfl, rfl, Or.inr ⟨h14, hbt.1, by omega, fun t ht => ⟨fun h1 h2 => hbt.2.2.2 t ?_ h2, fun h1 => ?_⟩⟩⟩
    · rw [plc_0] at h1
      by_cases q : t < Bf
      · omega
      · have := hB3 t (by omega) ht; omega
    · have h4 := hbt.2.1
      rw [plc_0]
      have := hB2 t (by omega)
      omega
  · refine AW_if_ne 22 dX3_lastChanceOf_17 (by decide) (by decide) (fun h => absurd h (by decide)) (fun _ => ?_)
    refine AW_iconst dX3_lastChanceOf_20 ?_
    refine AW_iret dX3_lastChanceOf_21 rfl ?_
    exact ⟨_, rfl, rfl, Or.inl ⟨h14, rfl⟩⟩
