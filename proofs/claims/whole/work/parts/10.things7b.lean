theorem gl_row {σ : am_S} : ∀ t, t ≤ 300 → (am_row σ 74 301 (gn (σ.1 71))).1 74 t = gn ((am_row σ 74 301 (gn (σ.1 71))).1 71) t := by
  intro t ht
  rw [am_row_at (by omega), am_row_other (by decide)]
def placeS (X : Row) (thing tick : Int) : Int := if 0 ≤ thing ∧ thing < X 6423 then (if 0 ≤ tick ∧ tick ≤ 300 then 10000 + plc X thing.toNat tick.toNat else -2) else -1
def canS (X : Row) (arm thing tick : Int) : Int := if (0 ≤ arm ∧ arm ≤ 3) ∧ 0 ≤ thing ∧ thing < X 6423 then (if 0 ≤ tick ∧ tick ≤ 300 then (if canB X arm.toNat thing.toNat tick.toNat = true then 1 else 0) else -2) else -1
theorem c_place7 {σ : am_S} (hS : WS (σ.1 71)) (hT : WT (σ.1 71)) {thing tick : Int} (hthing : -2147483648 ≤ thing ∧ thing < 2147483648) (htick : -2147483648 ≤ tick ∧ tick < 2147483648) : Runs am_tab mX7_place [vR 70, vI thing, vI tick] σ (QI (fun z σ' => z = placeS (σ.1 71) thing tick ∧ MS σ σ' (σ.1 71))) := by
  refine Runs.of (by decide) rfl (by simp) (Nat.le_of_ble_eq_true rfl) ?_
  show AW am_tab mX7_place 0 [some (vR 70), some (vI thing), some (vI tick)] [] σ _
  refine AW_aload_n dX7_place_0 rfl ?_
  refine AW_iload_n dX7_place_1 rfl ?_
  refine AW_cVI1 dX7_place_2 kX7_86 (am_fit_b rfl) rfl rfl (Nat.le_of_ble_eq_true rfl) (c_isThing7 hthing hT.1) (fun z σ' hq => ?_)
  obtain ⟨rfl, ⟨rfl, h2⟩ | ⟨rfl, h2⟩⟩ := hq
  · refine AW_if_ne 10 dX7_place_5 (by decide) (by decide) (fun _ => ?_) (fun h => absurd (by decide) h)
    refine AW_iload_n dX7_place_10 rfl ?_
    refine AW_cSI1 dX7_place_11 kX7_60 (am_fit_b rfl) (Nat.le_of_ble_eq_true rfl) (c_isTick7 htick) (fun z σ' hq => ?_)
    obtain ⟨rfl, ⟨rfl, h11⟩ | ⟨rfl, h11⟩⟩ := hq
    · refine AW_if_ne 20 dX7_place_14 (by decide) (by decide) (fun _ => ?_) (fun h => absurd (by decide) h)
      refine AW_aload_n dX7_place_20 rfl ?_
      obtain ⟨k, rfl⟩ : ∃ k : Nat, thing = k := ⟨thing.toNat, by omega⟩
      obtain ⟨t, rfl⟩ : ∃ t : Nat, tick = t := ⟨tick.toNat, by omega⟩
      refine AW_cVV0 dX7_place_21 kX7_72 (am_fit_b rfl) rfl rfl (Nat.le_of_ble_eq_true rfl) (c_layGone7 hS) (fun σ' hq => ?_)
      replace hq := hq.symm
      subst hq
      refine AW_sipush dX7_place_24 (by decide) ?_
      refine AW_aload_n dX7_place_27 rfl ?_
      refine AW_iload_n dX7_place_28 rfl ?_
      refine AW_iload_n dX7_place_29 rfl ?_
      refine AW_cVI2 dX7_place_30 kX7_75 (am_fit_b rfl) rfl rfl (Nat.le_of_ble_eq_true rfl) (c_placeOf7 (σ := am_row σ 74 301 (gn (σ.1 71))) (by rw [am_row_other (by decide)]; exact hS) (by rw [am_row_other (by decide)]; exact hT) gl_row (by rw [am_row_other (by decide)]; omega) (by omega)) (fun z σ' hq => ?_)
      obtain ⟨hz, rfl⟩ := hq
      rw [am_row_other (by decide)] at hz
      subst hz
      refine AW_iadd dX7_place_33 ?_
      refine AW_iret dX7_place_34 rfl ?_
      refine ⟨_, rfl, ?_⟩
      simp only [placeS, Int.toNat_natCast]
      rw [if_pos (by omega), if_pos (by omega)]
      exact ⟨rfl, MS.rf.row (by decide)⟩
    · refine AW_if_ne 20 dX7_place_14 (by decide) (by decide) (fun h => absurd h (by decide)) (fun _ => ?_)
      refine AW_bipush dX7_place_17 (by decide) ?_
      refine AW_iret dX7_place_19 rfl ?_
      refine ⟨_, rfl, ?_⟩
      simp only [placeS, Int.toNat_natCast]
      rw [if_pos (by omega), if_neg (by omega)]
      exact ⟨rfl, MS.rf⟩
  · refine AW_if_ne 10 dX7_place_5 (by decide) (by decide) (fun h => absurd h (by decide)) (fun _ => ?_)
    refine AW_iconst dX7_place_8 ?_
    refine AW_iret dX7_place_9 rfl ?_
    refine ⟨_, rfl, ?_⟩
    simp only [placeS, Int.toNat_natCast]
    rw [if_neg (by omega)]
    exact ⟨rfl, MS.rf⟩
theorem c_can7 {σ : am_S} (hS : WS (σ.1 71)) (hT : WT (σ.1 71)) (hA : WA (σ.1 71)) {arm thing tick : Int} (harm : -2147483648 ≤ arm ∧ arm < 2147483648) (hthing : -2147483648 ≤ thing ∧ thing < 2147483648) (htick : -2147483648 ≤ tick ∧ tick < 2147483648) : Runs am_tab mX7_can [vR 70, vI arm, vI thing, vI tick] σ (QI (fun z σ' => z = canS (σ.1 71) arm thing tick ∧ MS σ σ' (σ.1 71))) := by
  refine Runs.of (by decide) rfl (by simp) (Nat.le_of_ble_eq_true rfl) ?_
  show AW am_tab mX7_can 0 [some (vR 70), some (vI arm), some (vI thing), some (vI tick)] [] σ _
  refine AW_iload_n dX7_can_0 rfl ?_
  refine AW_cSI1 dX7_can_1 kX7_89 (am_fit_b rfl) (Nat.le_of_ble_eq_true rfl) (c_isArm7 harm) (fun z σ' hq => ?_)
  obtain ⟨rfl, ⟨rfl, h1⟩ | ⟨rfl, h1⟩⟩ := hq
  · refine AW_if_eq 15 dX7_can_4 (by decide) (by decide) (fun h => absurd h (by decide)) (fun _ => ?_)
    refine AW_aload_n dX7_can_7 rfl ?_
    refine AW_iload_n dX7_can_8 rfl ?_
    refine AW_cVI1 dX7_can_9 kX7_86 (am_fit_b rfl) rfl rfl (Nat.le_of_ble_eq_true rfl) (c_isThing7 hthing hT.1) (fun z σ' hq => ?_)
    obtain ⟨rfl, ⟨rfl, h9⟩ | ⟨rfl, h9⟩⟩ := hq
    · refine AW_if_ne 17 dX7_can_12 (by decide) (by decide) (fun _ => ?_) (fun h => absurd (by decide) h)
      refine AW_iload_n dX7_can_17 rfl ?_
      refine AW_cSI1 dX7_can_18 kX7_60 (am_fit_b rfl) (Nat.le_of_ble_eq_true rfl) (c_isTick7 htick) (fun z σ' hq => ?_)
      obtain ⟨rfl, ⟨rfl, h18⟩ | ⟨rfl, h18⟩⟩ := hq
      · refine AW_if_ne 27 dX7_can_21 (by decide) (by decide) (fun _ => ?_) (fun h => absurd (by decide) h)
        refine AW_aload_n dX7_can_27 rfl ?_
        obtain ⟨a, rfl⟩ : ∃ a : Nat, arm = a := ⟨arm.toNat, by omega⟩
        obtain ⟨k, rfl⟩ : ∃ k : Nat, thing = k := ⟨thing.toNat, by omega⟩
        obtain ⟨t, rfl⟩ : ∃ t : Nat, tick = t := ⟨tick.toNat, by omega⟩
        refine AW_cVV0 dX7_can_28 kX7_72 (am_fit_b rfl) rfl rfl (Nat.le_of_ble_eq_true rfl) (c_layGone7 hS) (fun σ' hq => ?_)
        replace hq := hq.symm
        subst hq
        refine AW_aload_n dX7_can_31 rfl ?_
        refine AW_iload_n dX7_can_32 rfl ?_
        refine AW_iload_n dX7_can_33 rfl ?_
        refine AW_iload_n dX7_can_34 rfl ?_
        refine AW_cVI3 dX7_can_35 kX7_92 (am_fit_b rfl) rfl rfl (Nat.le_of_ble_eq_true rfl) (c_canTake7 (σ := am_row σ 74 301 (gn (σ.1 71))) (by rw [am_row_other (by decide)]; exact hS) (by rw [am_row_other (by decide)]; exact hT) (by rw [am_row_other (by decide)]; exact hA) gl_row (by omega) (by rw [am_row_other (by decide)]; omega) (by omega)) (fun z σ' hq => ?_)
        obtain ⟨rfl, ⟨rfl, h35⟩ | ⟨rfl, h35⟩⟩ := hq
        · refine AW_if_eq 45 dX7_can_38 (by decide) (by decide) (fun h => absurd h (by decide)) (fun _ => ?_)
          rw [am_row_other (by decide)] at h35
          refine AW_iconst dX7_can_41 ?_
          refine AW_goto (tgt := 46) dX7_can_42 (by decide) ?_
          refine AW_iret dX7_can_46 rfl ?_
          refine ⟨_, rfl, ?_⟩
          simp only [canS, Int.toNat_natCast]
          rw [if_pos (by omega), if_pos (by omega)]
          first
          | (rw [if_pos h35]; exact ⟨rfl, MS.rf.row (by decide)⟩)
          | (rw [if_neg h35]; exact ⟨rfl, MS.rf.row (by decide)⟩)
        · refine AW_if_eq 45 dX7_can_38 (by decide) (by decide) (fun _ => ?_) (fun h => absurd (by decide) h)
          rw [am_row_other (by decide)] at h35
          refine AW_iconst dX7_can_45 ?_
          refine AW_iret dX7_can_46 rfl ?_
          refine ⟨_, rfl, ?_⟩
          simp only [canS, Int.toNat_natCast]
          rw [if_pos (by omega), if_pos (by omega)]
          first
          | (rw [if_pos h35]; exact ⟨rfl, MS.rf.row (by decide)⟩)
          | (rw [if_neg h35]; exact ⟨rfl, MS.rf.row (by decide)⟩)
      · refine AW_if_ne 27 dX7_can_21 (by decide) (by decide) (fun h => absurd h (by decide)) (fun _ => ?_)
        refine AW_bipush dX7_can_24 (by decide) ?_
        refine AW_iret dX7_can_26 rfl ?_
        refine ⟨_, rfl, ?_⟩
        simp only [canS, Int.toNat_natCast]
        rw [if_pos (by omega), if_neg (by omega)]
        exact ⟨rfl, MS.rf⟩
    · refine AW_if_ne 17 dX7_can_12 (by decide) (by decide) (fun h => absurd h (by decide)) (fun _ => ?_)
      refine AW_iconst dX7_can_15 ?_
      refine AW_iret dX7_can_16 rfl ?_
      refine ⟨_, rfl, ?_⟩
      simp only [canS, Int.toNat_natCast]
      rw [if_neg (by omega)]
      exact ⟨rfl, MS.rf⟩
  · refine AW_if_eq 15 dX7_can_4 (by decide) (by decide) (fun _ => ?_) (fun h => absurd (by decide) h)
    refine AW_iconst dX7_can_15 ?_
    refine AW_iret dX7_can_16 rfl ?_
    refine ⟨_, rfl, ?_⟩
    simp only [canS, Int.toNat_natCast]
    rw [if_neg (by omega)]
    exact ⟨rfl, MS.rf⟩
def seenN (X : Row) (k : Nat) : Nat → Int
  | 0 => 0
  | t + 1 => seenN X k t + (if X (381 + 301 * k + t) = 1 then 1 else 0)
theorem seenN_b {X : Row} {k : Nat} : ∀ t, 0 ≤ seenN X k t ∧ seenN X k t ≤ t := by
  intro t
  induction t with
  | zero => simp [seenN]
  | succ t ih => simp only [seenN]; split <;> omega
theorem l_seenOf7 {σ : am_S} (hT : WT (σ.1 71)) {k : Nat} (hk : (k : Int) < σ.1 71 6423) {Q : Option am_V → am_S → Prop} (hQ : Q (some (vI (seenN (σ.1 71) k 301))) σ) : ∀ i, i ≤ 301 → AW am_tab mX7_seenOf 4 [some (vR 70), some (vI k), some (vI (seenN (σ.1 71) k i)), some (vI i)] [] σ Q :=
  up_loop (fun i hi ih => by
    refine AW_iload_n dX7_seenOf_4 rfl ?_
    refine AW_sipush dX7_seenOf_5 (by decide) ?_
    refine AW_icmp_ge 34 dX7_seenOf_8 (by decide) (by omega) (by omega) (fun h8 => ?_) (fun h8 => ?_)
    · refine AW_iload_n dX7_seenOf_34 rfl ?_
      refine AW_iret dX7_seenOf_35 rfl ?_
      have e : i = 301 := by omega
      subst e
      exact hQ
    · refine AW_iload_n dX7_seenOf_11 rfl ?_
      refine AW_aload_n dX7_seenOf_12 rfl ?_
      refine AW_iload_n dX7_seenOf_13 rfl ?_
      refine AW_iload_n dX7_seenOf_14 rfl ?_
      refine AW_cVI2 dX7_seenOf_15 kX7_82 (am_fit_b rfl) rfl rfl (Nat.le_of_ble_eq_true rfl) (c_wasSeen7 hT hk (by omega)) (fun z σ' hq => ?_)
      obtain ⟨rfl, ⟨rfl, h15⟩ | ⟨rfl, h15⟩⟩ := hq
      · refine AW_if_eq 25 dX7_seenOf_18 (by decide) (by decide) (fun h => absurd h (by decide)) (fun _ => ?_)
        refine AW_iconst dX7_seenOf_21 ?_
        refine AW_goto (tgt := 26) dX7_seenOf_22 (by decide) ?_
        refine AW_iadd dX7_seenOf_26 ?_
        refine AW_istore_n (i := 2) (lv' := [_, _, _, _]) dX7_seenOf_27 rfl (by decide) (Nat.le_of_ble_eq_true rfl) rfl ?_
        refine AW_iinc (lv' := [_, _, _, _]) dX7_seenOf_28 rfl (by decide) rfl ?_
        refine AW_goto (tgt := 4) dX7_seenOf_31 (by decide) ?_
        have e : seenN (σ.1 71) k (i + 1) = seenN (σ.1 71) k i + (if σ.1 71 (381 + 301 * k + i) = 1 then 1 else 0) := rfl
        first
        | rw [if_pos h15] at e
        | rw [if_neg h15] at e
        rw [← e]
        exact ih (by omega)
      · refine AW_if_eq 25 dX7_seenOf_18 (by decide) (by decide) (fun _ => ?_) (fun h => absurd (by decide) h)
        refine AW_iconst dX7_seenOf_25 ?_
        refine AW_iadd dX7_seenOf_26 ?_
        refine AW_istore_n (i := 2) (lv' := [_, _, _, _]) dX7_seenOf_27 rfl (by decide) (Nat.le_of_ble_eq_true rfl) rfl ?_
        refine AW_iinc (lv' := [_, _, _, _]) dX7_seenOf_28 rfl (by decide) rfl ?_
        refine AW_goto (tgt := 4) dX7_seenOf_31 (by decide) ?_
        have e : seenN (σ.1 71) k (i + 1) = seenN (σ.1 71) k i + (if σ.1 71 (381 + 301 * k + i) = 1 then 1 else 0) := rfl
        first
        | rw [if_pos h15] at e
        | rw [if_neg h15] at e
        rw [← e]
        exact ih (by omega))
theorem c_seenOf7 {σ : am_S} (hT : WT (σ.1 71)) {k : Nat} (hk : (k : Int) < σ.1 71 6423) : Runs am_tab mX7_seenOf [vR 70, vI k] σ (QI (fun z σ' => z = seenN (σ.1 71) k 301 ∧ σ' = σ)) := by
  refine Runs.of (by decide) rfl (by simp) (Nat.le_of_ble_eq_true rfl) ?_
  show AW am_tab mX7_seenOf 0 [some (vR 70), some (vI k), none, none] [] σ _
  refine AW_iconst dX7_seenOf_0 ?_
  refine AW_istore_n (i := 2) (lv' := [_, _, _, _]) dX7_seenOf_1 rfl (by decide) (Nat.le_of_ble_eq_true rfl) rfl ?_
  refine AW_iconst dX7_seenOf_2 ?_
  refine AW_istore_n (i := 3) (lv' := [_, _, _, _]) dX7_seenOf_3 rfl (by decide) (Nat.le_of_ble_eq_true rfl) rfl ?_
  exact l_seenOf7 hT hk ⟨_, rfl, rfl, rfl⟩ 0 (by omega)
def seen2 (X : Row) : Nat → Int
  | 0 => 0
  | k + 1 => seen2 X k + (if 1 < seenN X k 301 then 1 else 0)
theorem seen2_b {X : Row} : ∀ t, 0 ≤ seen2 X t ∧ seen2 X t ≤ t := by
  intro t
  induction t with
  | zero => simp [seen2]
  | succ t ih => simp only [seen2]; split <;> omega
def kindN (X : Row) (kd : Int) : Nat → Int
  | 0 => 0
  | k + 1 => kindN X kd k + (if X (361 + k) = kd then 1 else 0)
theorem kindN_b {X : Row} {kd : Int} : ∀ t, 0 ≤ kindN X kd t ∧ kindN X kd t ≤ t := by
  intro t
  induction t with
  | zero => simp [kindN]
  | succ t ih => simp only [kindN]; split <;> omega
theorem l_seenTwice7 {σ : am_S} (hT : WT (σ.1 71)) {Q : Option am_V → am_S → Prop} (hQ : Q (some (vI (seen2 (σ.1 71) (σ.1 71 6423).toNat))) σ) : ∀ i, i ≤ (σ.1 71 6423).toNat → AW am_tab mX7_seenTwice 4 [some (vR 70), some (vI (seen2 (σ.1 71) i)), some (vI i)] [] σ Q :=
  up_loop (fun i hi ih => by
    have hM := hT.1
    refine AW_iload_n dX7_seenTwice_4 rfl ?_
    refine AW_aload_n dX7_seenTwice_5 rfl ?_
    refine AW_get dX7_seenTwice_6 fX7_7 rfl rfl ?_
    refine AW_sipush dX7_seenTwice_9 (by decide) ?_
    refine AW_ialdN (j := 6423) dX7_seenTwice_12 rfl (Nat.le_of_ble_eq_true rfl) (by omega) (by omega) ?_
    refine AW_icmp_ge 39 dX7_seenTwice_13 (by decide) (by omega) (by omega) (fun h13 => ?_) (fun h13 => ?_)
    · refine AW_iload_n dX7_seenTwice_39 rfl ?_
      refine AW_iret dX7_seenTwice_40 rfl ?_
      have e : i = (σ.1 71 6423).toNat := by omega
      subst e
      exact hQ
    · refine AW_iload_n dX7_seenTwice_16 rfl ?_
      refine AW_aload_n dX7_seenTwice_17 rfl ?_
      refine AW_iload_n dX7_seenTwice_18 rfl ?_
      refine AW_cVI1 dX7_seenTwice_19 kX7_125 (am_fit_b rfl) rfl rfl (Nat.le_of_ble_eq_true rfl) (c_seenOf7 hT (by omega)) (fun z σ' hq => ?_)
      obtain ⟨hz, hs⟩ := hq
      replace hz := hz.symm
      subst hz
      replace hs := hs.symm
      subst hs
      refine AW_iconst dX7_seenTwice_22 ?_
      have hb := seenN_b (X := σ.1 71) (k := i) 301
      refine AW_icmp_le 30 dX7_seenTwice_23 (by decide) (by omega) (by omega) (fun h23 => ?_) (fun h23 => ?_)
      · refine AW_iconst dX7_seenTwice_30 ?_
        refine AW_iadd dX7_seenTwice_31 ?_
        refine AW_istore_n (i := 1) (lv' := [_, _, _]) dX7_seenTwice_32 rfl (by decide) (Nat.le_of_ble_eq_true rfl) rfl ?_
        refine AW_iinc (lv' := [_, _, _]) dX7_seenTwice_33 rfl (by decide) rfl ?_
        refine AW_goto (tgt := 4) dX7_seenTwice_36 (by decide) ?_
        have e : seen2 (σ.1 71) (i + 1) = seen2 (σ.1 71) i + _ := rfl
        first
        | rw [if_pos (by omega)] at e
        | rw [if_neg (by omega)] at e
        rw [← e]
        exact ih (by omega)
      · refine AW_iconst dX7_seenTwice_26 ?_
        refine AW_goto (tgt := 31) dX7_seenTwice_27 (by decide) ?_
        refine AW_iadd dX7_seenTwice_31 ?_
        refine AW_istore_n (i := 1) (lv' := [_, _, _]) dX7_seenTwice_32 rfl (by decide) (Nat.le_of_ble_eq_true rfl) rfl ?_
        refine AW_iinc (lv' := [_, _, _]) dX7_seenTwice_33 rfl (by decide) rfl ?_
        refine AW_goto (tgt := 4) dX7_seenTwice_36 (by decide) ?_
        have e : seen2 (σ.1 71) (i + 1) = seen2 (σ.1 71) i + _ := rfl
        first
        | rw [if_pos (by omega)] at e
        | rw [if_neg (by omega)] at e
        rw [← e]
        exact ih (by omega))
theorem c_seenTwice7 {σ : am_S} (hT : WT (σ.1 71)) : Runs am_tab mX7_seenTwice [vR 70] σ (QI (fun z σ' => z = seen2 (σ.1 71) (σ.1 71 6423).toNat ∧ σ' = σ)) := by
  refine Runs.of (by decide) rfl (by simp) (Nat.le_of_ble_eq_true rfl) ?_
  show AW am_tab mX7_seenTwice 0 [some (vR 70), none, none] [] σ _
  refine AW_iconst dX7_seenTwice_0 ?_
  refine AW_istore_n (i := 1) (lv' := [_, _, _]) dX7_seenTwice_1 rfl (by decide) (Nat.le_of_ble_eq_true rfl) rfl ?_
  refine AW_iconst dX7_seenTwice_2 ?_
  refine AW_istore_n (i := 2) (lv' := [_, _, _]) dX7_seenTwice_3 rfl (by decide) (Nat.le_of_ble_eq_true rfl) rfl ?_
  exact l_seenTwice7 hT ⟨_, rfl, rfl, rfl⟩ 0 (by omega)
theorem l_ofKind7 {σ : am_S} (hT : WT (σ.1 71)) {kd : Int} (hkd : -2147483648 ≤ kd ∧ kd < 2147483648) {Q : Option am_V → am_S → Prop} (hQ : Q (some (vI (kindN (σ.1 71) kd (σ.1 71 6423).toNat))) σ) : ∀ i, i ≤ (σ.1 71 6423).toNat → AW am_tab mX7_ofKind 4 [some (vR 70), some (vI kd), some (vI (kindN (σ.1 71) kd i)), some (vI i)] [] σ Q :=
  up_loop (fun i hi ih => by
    have hM := hT.1
    refine AW_iload_n dX7_ofKind_4 rfl ?_
    refine AW_aload_n dX7_ofKind_5 rfl ?_
    refine AW_get dX7_ofKind_6 fX7_7 rfl rfl ?_
    refine AW_sipush dX7_ofKind_9 (by decide) ?_
    refine AW_ialdN (j := 6423) dX7_ofKind_12 rfl (Nat.le_of_ble_eq_true rfl) (by omega) (by omega) ?_
    refine AW_icmp_ge 44 dX7_ofKind_13 (by decide) (by omega) (by omega) (fun h13 => ?_) (fun h13 => ?_)
    · refine AW_iload_n dX7_ofKind_44 rfl ?_
      refine AW_iret dX7_ofKind_45 rfl ?_
      have e : i = (σ.1 71 6423).toNat := by omega
      subst e
      exact hQ
    · refine AW_iload_n dX7_ofKind_16 rfl ?_
      refine AW_aload_n dX7_ofKind_17 rfl ?_
      refine AW_get dX7_ofKind_18 fX7_7 rfl rfl ?_
      refine AW_sipush dX7_ofKind_21 (by decide) ?_
      refine AW_iload_n dX7_ofKind_24 rfl ?_
      refine AW_iadd dX7_ofKind_25 ?_
      refine AW_ialdN (j := 361 + i) dX7_ofKind_26 rfl (Nat.le_of_ble_eq_true rfl) (by omega) (by omega) ?_
      refine AW_iload_n dX7_ofKind_27 rfl ?_
      have hk2 := hT.2 i (by omega)
      refine AW_icmp_ne 35 dX7_ofKind_28 (by decide) (by omega) (by omega) (fun h28 => ?_) (fun h28 => ?_)
      · refine AW_iconst dX7_ofKind_35 ?_
        refine AW_iadd dX7_ofKind_36 ?_
        refine AW_istore_n (i := 2) (lv' := [_, _, _, _]) dX7_ofKind_37 rfl (by decide) (Nat.le_of_ble_eq_true rfl) rfl ?_
        refine AW_iinc (lv' := [_, _, _, _]) dX7_ofKind_38 rfl (by decide) rfl ?_
        refine AW_goto (tgt := 4) dX7_ofKind_41 (by decide) ?_
        have e : kindN (σ.1 71) kd (i + 1) = kindN (σ.1 71) kd i + _ := rfl
        first
        | rw [if_pos (by omega)] at e
        | rw [if_neg (by omega)] at e
        rw [← e]
        exact ih (by omega)
      · refine AW_iconst dX7_ofKind_31 ?_
        refine AW_goto (tgt := 36) dX7_ofKind_32 (by decide) ?_
        refine AW_iadd dX7_ofKind_36 ?_
        refine AW_istore_n (i := 2) (lv' := [_, _, _, _]) dX7_ofKind_37 rfl (by decide) (Nat.le_of_ble_eq_true rfl) rfl ?_
        refine AW_iinc (lv' := [_, _, _, _]) dX7_ofKind_38 rfl (by decide) rfl ?_
        refine AW_goto (tgt := 4) dX7_ofKind_41 (by decide) ?_
        have e : kindN (σ.1 71) kd (i + 1) = kindN (σ.1 71) kd i + _ := rfl
        first
        | rw [if_pos (by omega)] at e
        | rw [if_neg (by omega)] at e
        rw [← e]
        exact ih (by omega))
theorem c_ofKind7 {σ : am_S} (hT : WT (σ.1 71)) {kd : Int} (hkd : -2147483648 ≤ kd ∧ kd < 2147483648) : Runs am_tab mX7_ofKind [vR 70, vI kd] σ (QI (fun z σ' => z = kindN (σ.1 71) kd (σ.1 71 6423).toNat ∧ σ' = σ)) := by
  refine Runs.of (by decide) rfl (by simp) (Nat.le_of_ble_eq_true rfl) ?_
  show AW am_tab mX7_ofKind 0 [some (vR 70), some (vI kd), none, none] [] σ _
  refine AW_iconst dX7_ofKind_0 ?_
  refine AW_istore_n (i := 2) (lv' := [_, _, _, _]) dX7_ofKind_1 rfl (by decide) (Nat.le_of_ble_eq_true rfl) rfl ?_
  refine AW_iconst dX7_ofKind_2 ?_
  refine AW_istore_n (i := 3) (lv' := [_, _, _, _]) dX7_ofKind_3 rfl (by decide) (Nat.le_of_ble_eq_true rfl) rfl ?_
  exact l_ofKind7 hT hkd ⟨_, rfl, rfl, rfl⟩ 0 (by omega)
def countS (X K : Row) (what : Int) : Int := if 10 ≤ what ∧ what ≤ 12 then kindN X (what - 10) (X 6423).toNat else if what = 0 then X 6423 else if what = 1 then chg X 300 else if what = 2 then X 6421 else if what = 3 then X 6422 else if what = 4 then seen2 X (X 6423).toNat else if what = 5 then (if K 0 = 0 then 0 else 1) + (if K 1 = 0 then 0 else 2) else -2
theorem c_count7 {σ : am_S} (hS : WS (σ.1 71)) (hT : WT (σ.1 71)) (hK : ∀ k, k < 2 → 0 ≤ σ.1 73 k ∧ σ.1 73 k ≤ 1) {what : Int} (hwhat : -2147483648 ≤ what ∧ what < 2147483648) : Runs am_tab mX7_count [vR 70, vI what] σ (QI (fun z σ' => z = countS (σ.1 71) (σ.1 73) what ∧ MS σ σ' (σ.1 71))) := by
  refine Runs.of (by decide) rfl (by simp) (Nat.le_of_ble_eq_true rfl) ?_
  show AW am_tab mX7_count 0 [some (vR 70), some (vI what)] [] σ _
  refine AW_iload_n dX7_count_0 rfl ?_
  refine AW_bipush dX7_count_1 (by decide) ?_
  refine AW_bipush dX7_count_3 (by decide) ?_
  refine AW_cSI3 dX7_count_5 kX7_56 (am_fit_b rfl) (Nat.le_of_ble_eq_true rfl) (c_in hwhat (by omega) (by omega)) (fun z σ' hq => ?_)
  obtain ⟨rfl, ⟨rfl, h5⟩ | ⟨rfl, h5⟩⟩ := hq
  · refine AW_if_eq 20 dX7_count_8 (by decide) (by decide) (fun h => absurd h (by decide)) (fun _ => ?_)
    refine AW_aload_n dX7_count_11 rfl ?_
    refine AW_iload_n dX7_count_12 rfl ?_
    refine AW_bipush dX7_count_13 (by decide) ?_
    refine AW_isub dX7_count_15 ?_
    refine AW_cVI1 dX7_count_16 kX7_143 (am_fit_b rfl) rfl rfl (Nat.le_of_ble_eq_true rfl) (c_ofKind7 hT (by omega)) (fun z σ' hq => ?_)
    obtain ⟨hz, hs⟩ := hq
    replace hz := hz.symm
    subst hz
    replace hs := hs.symm
    subst hs
    refine AW_iret dX7_count_19 rfl ?_
    refine ⟨_, rfl, ?_, MS.rf⟩
    unfold countS
    repeat (first | rw [if_neg (by omega)] | rw [if_pos (by omega)])
  · refine AW_if_eq 20 dX7_count_8 (by decide) (by decide) (fun _ => ?_) (fun h => absurd (by decide) h)
    refine AW_iload_n dX7_count_20 rfl ?_
    rcases (show (what < 0 ∨ 5 < what) ∨ what = 0 ∨ what = 1 ∨ what = 2 ∨ what = 3 ∨ what = 4 ∨ what = 5 by omega) with hsw | rfl | rfl | rfl | rfl | rfl | rfl
    · refine AW_tableOut 122 dX7_count_21 (by omega) hsw (by decide) ?_
      refine AW_bipush dX7_count_122 (by decide) ?_
      refine AW_iret dX7_count_124 rfl ?_
      refine ⟨_, rfl, ?_, MS.rf⟩
      unfold countS
      repeat (first | rw [if_neg (by omega)] | rw [if_pos (by omega)])
    · refine AW_tableIn 60 dX7_count_21 (by decide) (by decide) rfl (by decide) ?_
      refine AW_aload_n dX7_count_60 rfl ?_
      refine AW_get dX7_count_61 fX7_7 rfl rfl ?_
      refine AW_sipush dX7_count_64 (by decide) ?_
      refine AW_ialdN (j := 6423) dX7_count_67 rfl (Nat.le_of_ble_eq_true rfl) (by omega) (by omega) ?_
      refine AW_iret dX7_count_68 rfl ?_
      refine ⟨_, rfl, ?_, MS.rf⟩
      unfold countS
      repeat (first | rw [if_neg (by omega)] | rw [if_pos (by omega)])
    · refine AW_tableIn 69 dX7_count_21 (by decide) (by decide) rfl (by decide) ?_
      refine AW_aload_n dX7_count_69 rfl ?_
      refine AW_cVI0 dX7_count_70 kX7_64 (am_fit_b rfl) rfl rfl (Nat.le_of_ble_eq_true rfl) (c_changes7 hS) (fun z σ' hq => ?_)
      obtain ⟨hz, hs⟩ := hq
      replace hz := hz.symm
      subst hz
      replace hs := hs.symm
      subst hs
      refine AW_iret dX7_count_73 rfl ?_
      refine ⟨_, rfl, ?_, MS.rf⟩
      unfold countS
      repeat (first | rw [if_neg (by omega)] | rw [if_pos (by omega)])
    · refine AW_tableIn 74 dX7_count_21 (by decide) (by decide) rfl (by decide) ?_
      refine AW_aload_n dX7_count_74 rfl ?_
      refine AW_get dX7_count_75 fX7_7 rfl rfl ?_
      refine AW_sipush dX7_count_78 (by decide) ?_
      refine AW_iload_n dX7_count_81 rfl ?_
      refine AW_iadd dX7_count_82 ?_
      refine AW_iconst dX7_count_83 ?_
      refine AW_isub dX7_count_84 ?_
      first
      | (refine AW_ialdN (j := 6421) dX7_count_85 rfl (Nat.le_of_ble_eq_true rfl) (by decide) (by decide) ?_)
      | (refine AW_ialdN (j := 6422) dX7_count_85 rfl (Nat.le_of_ble_eq_true rfl) (by decide) (by decide) ?_)
      refine AW_iret dX7_count_86 rfl ?_
      refine ⟨_, rfl, ?_, MS.rf⟩
      unfold countS
      repeat (first | rw [if_neg (by omega)] | rw [if_pos (by omega)])
    · refine AW_tableIn 74 dX7_count_21 (by decide) (by decide) rfl (by decide) ?_
      refine AW_aload_n dX7_count_74 rfl ?_
      refine AW_get dX7_count_75 fX7_7 rfl rfl ?_
      refine AW_sipush dX7_count_78 (by decide) ?_
      refine AW_iload_n dX7_count_81 rfl ?_
      refine AW_iadd dX7_count_82 ?_
      refine AW_iconst dX7_count_83 ?_
      refine AW_isub dX7_count_84 ?_
      first
      | (refine AW_ialdN (j := 6421) dX7_count_85 rfl (Nat.le_of_ble_eq_true rfl) (by decide) (by decide) ?_)
      | (refine AW_ialdN (j := 6422) dX7_count_85 rfl (Nat.le_of_ble_eq_true rfl) (by decide) (by decide) ?_)
      refine AW_iret dX7_count_86 rfl ?_
      refine ⟨_, rfl, ?_, MS.rf⟩
      unfold countS
      repeat (first | rw [if_neg (by omega)] | rw [if_pos (by omega)])
    · refine AW_tableIn 87 dX7_count_21 (by decide) (by decide) rfl (by decide) ?_
      refine AW_aload_n dX7_count_87 rfl ?_
      refine AW_cVI0 dX7_count_88 kX7_146 (am_fit_b rfl) rfl rfl (Nat.le_of_ble_eq_true rfl) (c_seenTwice7 hT) (fun z σ' hq => ?_)
      obtain ⟨hz, hs⟩ := hq
      replace hz := hz.symm
      subst hz
      replace hs := hs.symm
      subst hs
      refine AW_iret dX7_count_91 rfl ?_
      refine ⟨_, rfl, ?_, MS.rf⟩
      unfold countS
      repeat (first | rw [if_neg (by omega)] | rw [if_pos (by omega)])
    · refine AW_tableIn 92 dX7_count_21 (by decide) (by decide) rfl (by decide) ?_
      refine AW_aload_n dX7_count_92 rfl ?_
      refine AW_get dX7_count_93 fX7_16 rfl rfl ?_
      refine AW_iconst dX7_count_96 ?_
      refine AW_zaldN (j := 0) dX7_count_97 rfl (Nat.le_of_ble_eq_true rfl) (by omega) (by omega) ?_
      have hK0 := hK 0 (by omega)
      refine AW_if_eq 105 dX7_count_98 (by decide) (by omega) (fun h98 => ?_) (fun h98 => ?_)
      · refine AW_iconst dX7_count_105 ?_
        refine AW_aload_n dX7_count_106 rfl ?_
        refine AW_get dX7_count_107 fX7_16 rfl rfl ?_
        refine AW_iconst dX7_count_110 ?_
        refine AW_zaldN (j := 1) dX7_count_111 rfl (Nat.le_of_ble_eq_true rfl) (by omega) (by omega) ?_
        have hK1 := hK 1 (by omega)
        refine AW_if_eq 119 dX7_count_112 (by decide) (by omega) (fun h112 => ?_) (fun h112 => ?_)
        · refine AW_iconst dX7_count_119 ?_
          refine AW_iadd dX7_count_120 ?_
          refine AW_iret dX7_count_121 rfl ?_
          refine ⟨_, rfl, ?_, MS.rf⟩
          unfold countS
          repeat (first | rw [if_neg (by omega)] | rw [if_pos (by omega)])
        · refine AW_iconst dX7_count_115 ?_
          refine AW_goto (tgt := 120) dX7_count_116 (by decide) ?_
          refine AW_iadd dX7_count_120 ?_
          refine AW_iret dX7_count_121 rfl ?_
          refine ⟨_, rfl, ?_, MS.rf⟩
          unfold countS
          repeat (first | rw [if_neg (by omega)] | rw [if_pos (by omega)])
      · refine AW_iconst dX7_count_101 ?_
        refine AW_goto (tgt := 106) dX7_count_102 (by decide) ?_
        refine AW_aload_n dX7_count_106 rfl ?_
        refine AW_get dX7_count_107 fX7_16 rfl rfl ?_
        refine AW_iconst dX7_count_110 ?_
        refine AW_zaldN (j := 1) dX7_count_111 rfl (Nat.le_of_ble_eq_true rfl) (by omega) (by omega) ?_
        have hK1 := hK 1 (by omega)
        refine AW_if_eq 119 dX7_count_112 (by decide) (by omega) (fun h112 => ?_) (fun h112 => ?_)
        · refine AW_iconst dX7_count_119 ?_
          refine AW_iadd dX7_count_120 ?_
          refine AW_iret dX7_count_121 rfl ?_
          refine ⟨_, rfl, ?_, MS.rf⟩
          unfold countS
          repeat (first | rw [if_neg (by omega)] | rw [if_pos (by omega)])
        · refine AW_iconst dX7_count_115 ?_
          refine AW_goto (tgt := 120) dX7_count_116 (by decide) ?_
          refine AW_iadd dX7_count_120 ?_
          refine AW_iret dX7_count_121 rfl ?_
          refine ⟨_, rfl, ?_, MS.rf⟩
          unfold countS
          repeat (first | rw [if_neg (by omega)] | rw [if_pos (by omega)])
