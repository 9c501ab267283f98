-- ===== the calls that ask for THE PLAN, what they answer of the row X =====
def takesR (X : Row) (n : Nat) (arm tick z : Int) : Prop := if 0 ≤ arm ∧ arm ≤ 3 then (if 0 ≤ tick ∧ tick ≤ 300 then ∃ pl, PlanSpec (gA X (-6)) n pl ∧ z = takesN pl arm tick n else z = -2) else z = -1
def planR (X : Row) (n : Nat) (what z : Int) : Prop := if 0 ≤ what ∧ what ≤ 4 then (if what = 4 then z = (bset (needB X n) n : Nat) else ∃ pl, PlanSpec (gA X (-6)) n pl ∧ ∃ m : Nat, numX X (-6) n m ∧ z = (if what = 0 then (m : Int) else if what = 1 then (n : Int) - m else if what = 2 then lastN pl n else (bset (missB pl) n : Nat))) else z = -2
def armQ (X : Row) (n : Nat) (arm what z : Int) : Prop := if 0 ≤ arm ∧ arm ≤ 3 then (if 0 ≤ what ∧ what ≤ 6 then (if what < 5 then z = X (6401 + 4 * what.toNat + arm.toNat) else if what = 5 then ∃ pl, PlanSpec (gA X (-6)) n pl ∧ z = byN pl arm n else ∃ m m' : Nat, numX X (-6) n m ∧ numX X arm n m' ∧ z = (m : Int) - m') else z = -2) else z = -1
def trayR (X : Row) (n : Nat) (kind part z : Int) : Prop := if (0 ≤ kind ∧ kind ≤ 2) ∧ 0 ≤ part ∧ part ≤ X 6422 - 1 then ∃ pl, PlanSpec (gA X (-6)) n pl ∧ z = (trS X pl n 1204).1 (6 * kind.toNat + part.toNat) else z = -2
def thingR (X : Row) (n : Nat) (thing what z : Int) : Prop := if 0 ≤ thing ∧ thing < X 6423 then (if 0 ≤ what ∧ what ≤ 10 then (if what < 4 then z = X (301 + 20 * what.toNat + thing.toNat) else if what = 4 then z = seenN X thing.toNat 301 else if what < 8 then (∃ pl, PlanSpec (gA X (-6)) n pl ∧ z = (if what = 5 then pTick pl thing.toNat else if what = 6 then pArm pl thing.toNat else (trS X pl n 1204).2 thing.toNat)) else z = (if what = 8 then (caN X thing.toNat 301).1 else if what = 9 then (caN X thing.toNat 301).2.1 else (caN X thing.toNat 301).2.2)) else z = -2) else z = -1
theorem takesR_u {X : Row} {n : Nat} {arm tick z z' : Int} (h : takesR X n arm tick z) (h' : takesR X n arm tick z') : z = z' := by
  unfold takesR at h h'
  by_cases c1 : 0 ≤ arm ∧ arm ≤ 3
  · rw [if_pos c1] at h h'
    by_cases c2 : 0 ≤ tick ∧ tick ≤ 300
    · rw [if_pos c2] at h h'
      obtain ⟨pl, p1, e1⟩ := h
      obtain ⟨pl', p2, e2⟩ := h'
      rw [e1, e2]
      exact takesN_cg n (plan_uniq p1 p2)
    · rw [if_neg c2] at h h'
      rw [h, h']
  · rw [if_neg c1] at h h'
    rw [h, h']
theorem planR_u {X : Row} {n : Nat} {what z z' : Int} (h : planR X n what z) (h' : planR X n what z') : z = z' := by
  unfold planR at h h'
  by_cases c1 : 0 ≤ what ∧ what ≤ 4
  · rw [if_pos c1] at h h'
    by_cases c2 : what = 4
    · rw [if_pos c2] at h h'
      rw [h, h']
    · rw [if_neg c2] at h h'
      obtain ⟨pl, p1, m, m1, e1⟩ := h
      obtain ⟨pl', p2, m', m2, e2⟩ := h'
      have hp := plan_uniq p1 p2
      have hm : m = m' := IsMax.uniq m1 m2
      rw [e1, e2, hm, lastN_cg n hp, miss_cg hp]
  · rw [if_neg c1] at h h'
    rw [h, h']
theorem armQ_u {X : Row} {n : Nat} {arm what z z' : Int} (h : armQ X n arm what z) (h' : armQ X n arm what z') : z = z' := by
  unfold armQ at h h'
  by_cases c1 : 0 ≤ arm ∧ arm ≤ 3
  · rw [if_pos c1] at h h'
    by_cases c2 : 0 ≤ what ∧ what ≤ 6
    · rw [if_pos c2] at h h'
      by_cases c3 : what < 5
      · rw [if_pos c3] at h h'
        rw [h, h']
      · rw [if_neg c3] at h h'
        by_cases c4 : what = 5
        · rw [if_pos c4] at h h'
          obtain ⟨pl, p1, e1⟩ := h
          obtain ⟨pl', p2, e2⟩ := h'
          rw [e1, e2]
          exact byN_cg n (plan_uniq p1 p2)
        · rw [if_neg c4] at h h'
          obtain ⟨m, m', a1, a2, a3⟩ := h
          obtain ⟨k, k', b1, b2, b3⟩ := h'
          have e1 : m = k := IsMax.uniq a1 b1
          have e2 : m' = k' := IsMax.uniq a2 b2
          rw [a3, b3, e1, e2]
    · rw [if_neg c2] at h h'
      rw [h, h']
  · rw [if_neg c1] at h h'
    rw [h, h']
theorem trayR_u {X : Row} {n : Nat} {kind part z z' : Int} (h : trayR X n kind part z) (h' : trayR X n kind part z') : z = z' := by
  unfold trayR at h h'
  by_cases c1 : (0 ≤ kind ∧ kind ≤ 2) ∧ 0 ≤ part ∧ part ≤ X 6422 - 1
  · rw [if_pos c1] at h h'
    obtain ⟨pl, p1, e1⟩ := h
    obtain ⟨pl', p2, e2⟩ := h'
    rw [e1, e2, trS_pl (plan_uniq p1 p2)]
  · rw [if_neg c1] at h h'
    rw [h, h']
theorem thingR_u {X : Row} {n : Nat} {thing what z z' : Int} (hn : X 6423 = (n : Nat)) (h : thingR X n thing what z) (h' : thingR X n thing what z') : z = z' := by
  unfold thingR at h h'
  by_cases c1 : 0 ≤ thing ∧ thing < X 6423
  · rw [if_pos c1] at h h'
    by_cases c2 : 0 ≤ what ∧ what ≤ 10
    · rw [if_pos c2] at h h'
      by_cases c3 : what < 4
      · rw [if_pos c3] at h h'
        rw [h, h']
      · rw [if_neg c3] at h h'
        by_cases c4 : what = 4
        · rw [if_pos c4] at h h'
          rw [h, h']
        · rw [if_neg c4] at h h'
          by_cases c5 : what < 8
          · rw [if_pos c5] at h h'
            obtain ⟨pl, p1, e1⟩ := h
            obtain ⟨pl', p2, e2⟩ := h'
            have hu := plan_uniq p1 p2
            have hk := hu thing.toNat (by omega)
            rw [e1, e2, trS_pl hu, pTick_cg hk, pArm_cg hk]
          · rw [if_neg c5] at h h'
            rw [h, h']
    · rw [if_neg c2] at h h'
      rw [h, h']
  · rw [if_neg c1] at h h'
    rw [h, h']
theorem CC.fr {σ σ' : am_S} {X K : Row} {Y : Nat → Row} (hC : CC σ' X K Y) (hE : Eqx [0, 53, 54, 55, 56, 57, 58, 59, 68, 69] σ σ') : CP σ σ' X K Y := ⟨hC, fun a ha => hE.1 a (by simp only [List.mem_cons, List.not_mem_nil, or_false]; omega)⟩
theorem c_takes {σ : am_S} {X K : Row} {Y : Nat → Row} (hC : CC σ X K Y) {n : Nat} (hmany : X 6423 = (n : Nat)) {arm tick : Int} (harm : -2147483648 ≤ arm ∧ arm < 2147483648) (htick : -2147483648 ≤ tick ∧ tick < 2147483648) : Runs am_tab mX6_takes [vR 0, vI arm, vI tick] σ (QI (fun z σ' => takesR X n arm tick z ∧ CP σ σ' X K Y)) := by
  refine Runs.of (by decide) rfl (by simp) (Nat.le_of_ble_eq_true rfl) ?_
  show AW am_tab mX6_takes 0 [some (vR 0), some (vI arm), some (vI tick), none] [] σ _
  have hW := hC.1
  have hS := hW.1
  have hT := hW.2.1
  have hA := hW.2.2.1
  have hN := hW.2.2.2
  have hB := hC.2.1.1
  have hG := hC.2.1.2.1
  have hTO := hC.2.1.2.2.1
  have hAO := hC.2.1.2.2.2.1
  have hSN := hC.2.1.2.2.2.2.1
  have hm := hT.1
  have hc7 := hTO.1
  refine AW_iload_n dX6_takes_0 rfl ?_
  refine AW_cSI1 dX6_takes_1 kX6_148 (am_fit_b rfl) (Nat.le_of_ble_eq_true rfl) (c_isArm harm) (fun z σ' hq => ?_)
  obtain ⟨rfl, ⟨rfl, h1⟩ | ⟨rfl, h1⟩⟩ := hq
  · refine AW_if_ne 9 dX6_takes_4 (by decide) (by decide) (fun _ => ?_) (fun h => absurd (by decide) h)
    refine AW_iload_n dX6_takes_9 rfl ?_
    refine AW_cSI1 dX6_takes_10 kX6_45 (am_fit_b rfl) (Nat.le_of_ble_eq_true rfl) (c_isTick htick) (fun z σ' hq => ?_)
    obtain ⟨rfl, ⟨rfl, h10⟩ | ⟨rfl, h10⟩⟩ := hq
    · refine AW_if_ne 19 dX6_takes_13 (by decide) (by decide) (fun _ => ?_) (fun h => absurd (by decide) h)
      obtain ⟨a, rfl⟩ : ∃ a : Nat, arm = a := ⟨arm.toNat, by omega⟩
      obtain ⟨t, rfl⟩ : ∃ t : Nat, tick = t := ⟨tick.toNat, by omega⟩
      refine AW_aload_n dX6_takes_19 rfl ?_
      refine AW_cVR0 dX6_takes_20 kX6_122 (am_fit_b rfl) rfl rfl (Nat.le_of_ble_eq_true rfl) (c_freshPlan hC) (fun zf σ1 hqf => ?_)
      obtain ⟨rfl, hE1, hC1, n', f, p, m, f1, f2, f3, f4, f5, f6, f7, f8, f9, f10⟩ := hqf
      obtain rfl : n = n' := by omega
      refine AW_iload_n dX6_takes_23 rfl ?_
      refine AW_iload_n dX6_takes_24 rfl ?_
      refine AW_cVI2 dX6_takes_25 kX6_188 (am_fit_b rfl) rfl rfl (Nat.le_of_ble_eq_true rfl) (c_takenAt (n := n) (q := 53) (f := f) PT_53 (by omega) f2 f3 (by omega) (by omega)) (fun z σ' hq2 => ?_)
      obtain ⟨hz, hs, hz2⟩ := hq2
      replace hs := hs.symm
      subst hs
      refine AW_istore_n (i := 3) (lv' := [_, _, _, _]) dX6_takes_28 rfl (by decide) (Nat.le_of_ble_eq_true rfl) rfl ?_
      refine AW_iload_n dX6_takes_29 rfl ?_
      refine AW_if_ge 38 dX6_takes_30 (by decide) (by omega) (fun h30 => ?_) (fun h30 => ?_)
      · refine AW_iload_n dX6_takes_38 rfl ?_
        refine AW_iret dX6_takes_39 rfl ?_
        refine ⟨_, rfl, ?_, hC1.fr hE1⟩
        unfold takesR
        rw [if_pos (by omega), if_pos (by omega)]
        refine ⟨f, f4, ?_⟩
        rw [← hz]
        first
        | (rw [if_pos (by omega)])
        | (rw [if_neg (by omega)])
      · refine AW_bipush dX6_takes_33 (by decide) ?_
        refine AW_goto (tgt := 39) dX6_takes_35 (by decide) ?_
        refine AW_iret dX6_takes_39 rfl ?_
        refine ⟨_, rfl, ?_, hC1.fr hE1⟩
        unfold takesR
        rw [if_pos (by omega), if_pos (by omega)]
        refine ⟨f, f4, ?_⟩
        rw [← hz]
        first
        | (rw [if_pos (by omega)])
        | (rw [if_neg (by omega)])
    · refine AW_if_ne 19 dX6_takes_13 (by decide) (by decide) (fun h => absurd h (by decide)) (fun _ => ?_)
      refine AW_bipush dX6_takes_16 (by decide) ?_
      refine AW_iret dX6_takes_18 rfl ?_
      refine ⟨_, rfl, ?_, hC.rf⟩
      unfold takesR
      rw [if_pos (by omega), if_neg (by omega)]
  · refine AW_if_ne 9 dX6_takes_4 (by decide) (by decide) (fun h => absurd h (by decide)) (fun _ => ?_)
    refine AW_iconst dX6_takes_7 ?_
    refine AW_iret dX6_takes_8 rfl ?_
    refine ⟨_, rfl, ?_, hC.rf⟩
    unfold takesR
    rw [if_neg (by omega)]
theorem c_plan {σ : am_S} {X K : Row} {Y : Nat → Row} (hC : CC σ X K Y) {n : Nat} (hmany : X 6423 = (n : Nat)) {what : Int} (hwhat : -2147483648 ≤ what ∧ what < 2147483648) : Runs am_tab mX6_plan [vR 0, vI what] σ (QI (fun z σ' => planR X n what z ∧ CP σ σ' X K Y)) := by
  refine Runs.of (by decide) rfl (by simp) (Nat.le_of_ble_eq_true rfl) ?_
  show AW am_tab mX6_plan 0 [some (vR 0), some (vI what)] [] σ _
  have hW := hC.1
  have hS := hW.1
  have hT := hW.2.1
  have hA := hW.2.2.1
  have hN := hW.2.2.2
  have hB := hC.2.1.1
  have hG := hC.2.1.2.1
  have hTO := hC.2.1.2.2.1
  have hAO := hC.2.1.2.2.2.1
  have hSN := hC.2.1.2.2.2.2.1
  have hm := hT.1
  have hc7 := hTO.1
  refine AW_iload_n dX6_plan_0 rfl ?_
  rcases (show (what < 0 ∨ 4 < what) ∨ what = 0 ∨ what = 1 ∨ what = 2 ∨ what = 3 ∨ what = 4 by omega) with hsw | rfl | rfl | rfl | rfl | rfl
  · refine AW_tableOut 87 dX6_plan_1 (by omega) hsw (by decide) ?_
    refine AW_bipush dX6_plan_87 (by decide) ?_
    refine AW_iret dX6_plan_89 rfl ?_
    refine ⟨_, rfl, ?_, hC.rf⟩
    unfold planR
    rw [if_neg (by omega)]
  · refine AW_tableIn 36 dX6_plan_1 (by decide) (by decide) rfl (by decide) ?_
    refine AW_aload_n dX6_plan_36 rfl ?_
    refine AW_cVR0 dX6_plan_37 kX6_122 (am_fit_b rfl) rfl rfl (Nat.le_of_ble_eq_true rfl) (c_freshPlan hC) (fun zf σ1 hqf => ?_)
    obtain ⟨rfl, hE1, hC1, n', f, p, m, f1, f2, f3, f4, f5, f6, f7, f8, f9, f10⟩ := hqf
    obtain rfl : n = n' := by omega
    refine AW_get dX6_plan_40 fX6_182 rfl rfl ?_
    refine AW_iret dX6_plan_43 rfl ?_
    refine ⟨_, rfl, ?_, hC1.fr hE1⟩
    unfold planR
    rw [if_pos (by decide), if_neg (by decide)]
    refine ⟨f, f4, m, f7, ?_⟩
    rw [if_pos rfl]
    exact f6
  · refine AW_tableIn 44 dX6_plan_1 (by decide) (by decide) rfl (by decide) ?_
    refine AW_aload_n dX6_plan_44 rfl ?_
    refine AW_get dX6_plan_45 fX6_12 rfl rfl ?_
    refine AW_get dX6_plan_48 fX6_81 rfl rfl ?_
    refine AW_get dX6_plan_51 fX6_94 rfl rfl ?_
    refine AW_aload_n dX6_plan_54 rfl ?_
    refine AW_cVR0 dX6_plan_55 kX6_122 (am_fit_b rfl) rfl rfl (Nat.le_of_ble_eq_true rfl) (c_freshPlan hC) (fun zf σ1 hqf => ?_)
    obtain ⟨rfl, hE1, hC1, n', f, p, m, f1, f2, f3, f4, f5, f6, f7, f8, f9, f10⟩ := hqf
    obtain rfl : n = n' := by omega
    refine AW_get dX6_plan_58 fX6_182 rfl rfl ?_
    refine AW_isub dX6_plan_61 ?_
    refine AW_iret dX6_plan_62 rfl ?_
    refine ⟨_, rfl, ?_, hC1.fr hE1⟩
    unfold planR
    rw [if_pos (by decide), if_neg (by decide)]
    refine ⟨f, f4, m, f7, ?_⟩
    rw [if_neg (by decide), if_pos rfl, f6, hc7, hmany]
  · refine AW_tableIn 63 dX6_plan_1 (by decide) (by decide) rfl (by decide) ?_
    refine AW_aload_n dX6_plan_63 rfl ?_
    refine AW_cVR0 dX6_plan_64 kX6_122 (am_fit_b rfl) rfl rfl (Nat.le_of_ble_eq_true rfl) (c_freshPlan hC) (fun zf σ1 hqf => ?_)
    obtain ⟨rfl, hE1, hC1, n', f, p, m, f1, f2, f3, f4, f5, f6, f7, f8, f9, f10⟩ := hqf
    obtain rfl : n = n' := by omega
    refine AW_cVI0 dX6_plan_67 kX6_191 (am_fit_b rfl) rfl rfl (Nat.le_of_ble_eq_true rfl) (c_lastTick (n := n) (q := 53) (f := f) PT_53 (by omega) f2 f5) (fun z σ' hq => ?_)
    obtain ⟨hz, hs⟩ := hq
    replace hz := hz.symm
    subst hz
    replace hs := hs.symm
    subst hs
    refine AW_iret dX6_plan_70 rfl ?_
    refine ⟨_, rfl, ?_, hC1.fr hE1⟩
    unfold planR
    rw [if_pos (by decide), if_neg (by decide)]
    refine ⟨f, f4, m, f7, ?_⟩
    rw [if_neg (by decide), if_neg (by decide), if_pos rfl]
  · refine AW_tableIn 71 dX6_plan_1 (by decide) (by decide) rfl (by decide) ?_
    refine AW_aload_n dX6_plan_71 rfl ?_
    refine AW_cVR0 dX6_plan_72 kX6_122 (am_fit_b rfl) rfl rfl (Nat.le_of_ble_eq_true rfl) (c_freshPlan hC) (fun zf σ1 hqf => ?_)
    obtain ⟨rfl, hE1, hC1, n', f, p, m, f1, f2, f3, f4, f5, f6, f7, f8, f9, f10⟩ := hqf
    obtain rfl : n = n' := by omega
    refine AW_cVI0 dX6_plan_75 kX6_195 (am_fit_b rfl) rfl rfl (Nat.le_of_ble_eq_true rfl) (c_missedSet (n := n) (q := 53) (f := f) PT_53 (by omega) f2 f5) (fun z σ' hq => ?_)
    obtain ⟨hz, hs⟩ := hq
    replace hz := hz.symm
    subst hz
    replace hs := hs.symm
    subst hs
    refine AW_iret dX6_plan_78 rfl ?_
    refine ⟨_, rfl, ?_, hC1.fr hE1⟩
    unfold planR
    rw [if_pos (by decide), if_neg (by decide)]
    refine ⟨f, f4, m, f7, ?_⟩
    rw [if_neg (by decide), if_neg (by decide), if_neg (by decide)]
  · refine AW_tableIn 79 dX6_plan_1 (by decide) (by decide) rfl (by decide) ?_
    refine AW_aload_n dX6_plan_79 rfl ?_
    refine AW_cVR0 dX6_plan_80 kX6_122 (am_fit_b rfl) rfl rfl (Nat.le_of_ble_eq_true rfl) (c_freshPlan hC) (fun zf σ1 hqf => ?_)
    obtain ⟨rfl, hE1, hC1, n', f, p, m, f1, f2, f3, f4, f5, f6, f7, f8, f9, f10⟩ := hqf
    obtain rfl : n = n' := by omega
    refine AW_cVI0 dX6_plan_83 kX6_198 (am_fit_b rfl) rfl rfl (Nat.le_of_ble_eq_true rfl) (c_neededSet (n := n) (q := 53) (p := p) PT_53 (by omega) f5 f8) (fun z σ' hq => ?_)
    obtain ⟨hz, hs⟩ := hq
    replace hz := hz.symm
    subst hz
    replace hs := hs.symm
    subst hs
    refine AW_iret dX6_plan_86 rfl ?_
    refine ⟨_, rfl, ?_, hC1.fr hE1⟩
    unfold planR
    rw [if_pos (by decide), if_pos rfl]
    rw [bset_congr n (q := needB X n) (fun k hk => by rw [f9 k hk, Bool.not_not])]
theorem c_tray {σ : am_S} {X K : Row} {Y : Nat → Row} (hC : CC σ X K Y) {n : Nat} (hmany : X 6423 = (n : Nat)) {kind part : Int} (hkind : -2147483648 ≤ kind ∧ kind < 2147483648) (hpart : -2147483648 ≤ part ∧ part < 2147483648) : Runs am_tab mX6_tray [vR 0, vI kind, vI part] σ (QI (fun z σ' => trayR X n kind part z ∧ CP σ σ' X K Y)) := by
  refine Runs.of (by decide) rfl (by simp) (Nat.le_of_ble_eq_true rfl) ?_
  show AW am_tab mX6_tray 0 [some (vR 0), some (vI kind), some (vI part)] [] σ _
  have hW := hC.1
  have hS := hW.1
  have hT := hW.2.1
  have hA := hW.2.2.1
  have hN := hW.2.2.2
  have hB := hC.2.1.1
  have hG := hC.2.1.2.1
  have hTO := hC.2.1.2.2.1
  have hAO := hC.2.1.2.2.2.1
  have hSN := hC.2.1.2.2.2.2.1
  have hm := hT.1
  have hc7 := hTO.1
  have hsh := hC.2.1.2.2.2.2.2.2
  have hN2 := hN.2
  refine AW_iload_n dX6_tray_0 rfl ?_
  refine AW_iconst dX6_tray_1 ?_
  refine AW_iconst dX6_tray_2 ?_
  refine AW_cSI3 dX6_tray_3 kX6_49 (am_fit_b rfl) (Nat.le_of_ble_eq_true rfl) (c_isWithin hkind (by omega) (by omega)) (fun z σ' hq => ?_)
  obtain ⟨rfl, ⟨rfl, h3⟩ | ⟨rfl, h3⟩⟩ := hq
  · refine AW_if_eq 26 dX6_tray_6 (by decide) (by decide) (fun h => absurd h (by decide)) (fun _ => ?_)
    refine AW_iload_n dX6_tray_9 rfl ?_
    refine AW_iconst dX6_tray_10 ?_
    refine AW_aload_n dX6_tray_11 rfl ?_
    refine AW_get dX6_tray_12 fX6_12 rfl rfl ?_
    refine AW_get dX6_tray_15 fX6_201 rfl rfl ?_
    refine AW_iconst dX6_tray_18 ?_
    refine AW_isub dX6_tray_19 ?_
    refine AW_cSI3 dX6_tray_20 kX6_49 (am_fit_b rfl) (Nat.le_of_ble_eq_true rfl) (c_isWithin hpart (by omega) (by omega)) (fun z σ' hq => ?_)
    obtain ⟨rfl, ⟨rfl, h20⟩ | ⟨rfl, h20⟩⟩ := hq
    · refine AW_if_ne 29 dX6_tray_23 (by decide) (by decide) (fun _ => ?_) (fun h => absurd (by decide) h)
      obtain ⟨k, rfl⟩ : ∃ k : Nat, kind = k := ⟨kind.toNat, by omega⟩
      obtain ⟨p0, rfl⟩ : ∃ p0 : Nat, part = p0 := ⟨part.toNat, by omega⟩
      refine AW_aload_n dX6_tray_29 rfl ?_
      refine AW_cVR0 dX6_tray_30 kX6_122 (am_fit_b rfl) rfl rfl (Nat.le_of_ble_eq_true rfl) (c_freshPlan hC) (fun zf σ1 hqf => ?_)
      obtain ⟨rfl, hE1, hC1, n', f, p, m, f1, f2, f3, f4, f5, f6, f7, f8, f9, f10⟩ := hqf
      obtain rfl : n = n' := by omega
      first | refine AW_popR dX6_tray_33 ?_ | refine AW_popI dX6_tray_33 ?_
      refine AW_aload_n dX6_tray_34 rfl ?_
      refine AW_get dX6_tray_35 fX6_37 rfl rfl ?_
      refine AW_get dX6_tray_38 fX6_204 rfl rfl ?_
      refine AW_iload_n dX6_tray_41 rfl ?_
      refine AW_bipush dX6_tray_42 (by decide) ?_
      refine AW_imul dX6_tray_44 ?_
      refine AW_iload_n dX6_tray_45 rfl ?_
      refine AW_iadd dX6_tray_46 ?_
      refine AW_ialdN (j := 6 * k + p0) dX6_tray_47 rfl (Nat.le_of_ble_eq_true rfl) (by omega) (by omega) ?_
      refine AW_iret dX6_tray_48 rfl ?_
      refine ⟨_, rfl, ?_, hC1.fr hE1⟩
      unfold trayR
      rw [if_pos (by omega)]
      refine ⟨f, f4, ?_⟩
      exact f10.1 (6 * k + p0) (by omega)
    · refine AW_if_ne 29 dX6_tray_23 (by decide) (by decide) (fun h => absurd h (by decide)) (fun _ => ?_)
      refine AW_bipush dX6_tray_26 (by decide) ?_
      refine AW_iret dX6_tray_28 rfl ?_
      refine ⟨_, rfl, ?_, hC.rf⟩
      unfold trayR
      rw [if_neg (by omega)]
  · refine AW_if_eq 26 dX6_tray_6 (by decide) (by decide) (fun _ => ?_) (fun h => absurd (by decide) h)
    refine AW_bipush dX6_tray_26 (by decide) ?_
    refine AW_iret dX6_tray_28 rfl ?_
    refine ⟨_, rfl, ?_, hC.rf⟩
    unfold trayR
    rw [if_neg (by omega)]
theorem c_arm {σ : am_S} {X K : Row} {Y : Nat → Row} (hC : CC σ X K Y) {n : Nat} (hmany : X 6423 = (n : Nat)) {arm what : Int} (harm : -2147483648 ≤ arm ∧ arm < 2147483648) (hwhat : -2147483648 ≤ what ∧ what < 2147483648) : Runs am_tab mX6_arm [vR 0, vI arm, vI what] σ (QI (fun z σ' => armQ X n arm what z ∧ CP σ σ' X K Y)) := by
  refine Runs.of (by decide) rfl (by simp) (Nat.le_of_ble_eq_true rfl) ?_
  show AW am_tab mX6_arm 0 [some (vR 0), some (vI arm), some (vI what), none] [] σ _
  have hW := hC.1
  have hS := hW.1
  have hT := hW.2.1
  have hA := hW.2.2.1
  have hN := hW.2.2.2
  have hB := hC.2.1.1
  have hG := hC.2.1.2.1
  have hTO := hC.2.1.2.2.1
  have hAO := hC.2.1.2.2.2.1
  have hSN := hC.2.1.2.2.2.2.1
  have hm := hT.1
  have hc7 := hTO.1
  refine AW_iload_n dX6_arm_0 rfl ?_
  refine AW_cSI1 dX6_arm_1 kX6_148 (am_fit_b rfl) (Nat.le_of_ble_eq_true rfl) (c_isArm harm) (fun z σ' hq => ?_)
  obtain ⟨rfl, ⟨rfl, h1⟩ | ⟨rfl, h1⟩⟩ := hq
  · refine AW_if_ne 9 dX6_arm_4 (by decide) (by decide) (fun _ => ?_) (fun h => absurd (by decide) h)
    obtain ⟨a, rfl⟩ : ∃ a : Nat, arm = a := ⟨arm.toNat, by omega⟩
    refine AW_aload_n dX6_arm_9 rfl ?_
    refine AW_get dX6_arm_10 fX6_12 rfl rfl ?_
    refine AW_get dX6_arm_13 fX6_151 rfl rfl ?_
    refine AW_astore_n (i := 3) (lv' := [_, _, _, _]) dX6_arm_16 rfl (by decide) (Nat.le_of_ble_eq_true rfl) rfl ?_
    refine AW_iload_n dX6_arm_17 rfl ?_
    rcases (show (what < 0 ∨ 6 < what) ∨ what = 0 ∨ what = 1 ∨ what = 2 ∨ what = 3 ∨ what = 4 ∨ what = 5 ∨ what = 6 by omega) with hsw | rfl | rfl | rfl | rfl | rfl | rfl | rfl
    · refine AW_tableOut 132 dX6_arm_18 (by omega) hsw (by decide) ?_
      refine AW_bipush dX6_arm_132 (by decide) ?_
      refine AW_iret dX6_arm_134 rfl ?_
      refine ⟨_, rfl, ?_, hC.rf⟩
      unfold armQ
      rw [if_pos (by omega), if_neg (by omega)]
    · refine AW_tableIn 60 dX6_arm_18 (by decide) (by decide) rfl (by decide) ?_
      refine AW_aload_n dX6_arm_60 rfl ?_
      refine AW_get dX6_arm_61 fX6_160 rfl rfl ?_
      refine AW_iload_n dX6_arm_64 rfl ?_
      refine AW_ialdN (j := a) dX6_arm_65 rfl (Nat.le_of_ble_eq_true rfl) (by omega) (by omega) ?_
      refine AW_iret dX6_arm_66 rfl ?_
      refine ⟨_, rfl, ?_, hC.rf⟩
      unfold armQ
      rw [if_pos (by omega), if_pos (by decide), if_pos (by decide)]
      exact (hAO a (by omega)).1.trans (congrArg X (by omega))
    · refine AW_tableIn 67 dX6_arm_18 (by decide) (by decide) rfl (by decide) ?_
      refine AW_aload_n dX6_arm_67 rfl ?_
      refine AW_get dX6_arm_68 fX6_163 rfl rfl ?_
      refine AW_iload_n dX6_arm_71 rfl ?_
      refine AW_ialdN (j := a) dX6_arm_72 rfl (Nat.le_of_ble_eq_true rfl) (by omega) (by omega) ?_
      refine AW_iret dX6_arm_73 rfl ?_
      refine ⟨_, rfl, ?_, hC.rf⟩
      unfold armQ
      rw [if_pos (by omega), if_pos (by decide), if_pos (by decide)]
      exact (hAO a (by omega)).2.1.trans (congrArg X (by omega))
    · refine AW_tableIn 74 dX6_arm_18 (by decide) (by decide) rfl (by decide) ?_
      refine AW_aload_n dX6_arm_74 rfl ?_
      refine AW_get dX6_arm_75 fX6_166 rfl rfl ?_
      refine AW_iload_n dX6_arm_78 rfl ?_
      refine AW_ialdN (j := a) dX6_arm_79 rfl (Nat.le_of_ble_eq_true rfl) (by omega) (by omega) ?_
      refine AW_iret dX6_arm_80 rfl ?_
      refine ⟨_, rfl, ?_, hC.rf⟩
      unfold armQ
      rw [if_pos (by omega), if_pos (by decide), if_pos (by decide)]
      exact (hAO a (by omega)).2.2.1.trans (congrArg X (by omega))
    · refine AW_tableIn 81 dX6_arm_18 (by decide) (by decide) rfl (by decide) ?_
      refine AW_aload_n dX6_arm_81 rfl ?_
      refine AW_get dX6_arm_82 fX6_169 rfl rfl ?_
      refine AW_iload_n dX6_arm_85 rfl ?_
      refine AW_ialdN (j := a) dX6_arm_86 rfl (Nat.le_of_ble_eq_true rfl) (by omega) (by omega) ?_
      refine AW_iret dX6_arm_87 rfl ?_
      refine ⟨_, rfl, ?_, hC.rf⟩
      unfold armQ
      rw [if_pos (by omega), if_pos (by decide), if_pos (by decide)]
      exact (hAO a (by omega)).2.2.2.1.trans (congrArg X (by omega))
    · refine AW_tableIn 88 dX6_arm_18 (by decide) (by decide) rfl (by decide) ?_
      refine AW_aload_n dX6_arm_88 rfl ?_
      refine AW_get dX6_arm_89 fX6_172 rfl rfl ?_
      refine AW_iload_n dX6_arm_92 rfl ?_
      refine AW_ialdN (j := a) dX6_arm_93 rfl (Nat.le_of_ble_eq_true rfl) (by omega) (by omega) ?_
      refine AW_iret dX6_arm_94 rfl ?_
      refine ⟨_, rfl, ?_, hC.rf⟩
      unfold armQ
      rw [if_pos (by omega), if_pos (by decide), if_pos (by decide)]
      exact (hAO a (by omega)).2.2.2.2.trans (congrArg X (by omega))
    · refine AW_tableIn 95 dX6_arm_18 (by decide) (by decide) rfl (by decide) ?_
      refine AW_aload_n dX6_arm_95 rfl ?_
      refine AW_cVR0 dX6_arm_96 kX6_122 (am_fit_b rfl) rfl rfl (Nat.le_of_ble_eq_true rfl) (c_freshPlan hC) (fun zf σ1 hqf => ?_)
      obtain ⟨rfl, hE1, hC1, n', f, p, m, f1, f2, f3, f4, f5, f6, f7, f8, f9, f10⟩ := hqf
      obtain rfl : n = n' := by omega
      refine AW_iload_n dX6_arm_99 rfl ?_
      refine AW_cVI1 dX6_arm_100 kX6_175 (am_fit_b rfl) rfl rfl (Nat.le_of_ble_eq_true rfl) (c_takenBy (n := n) (q := 53) (f := f) PT_53 (by omega) f2 f5 harm) (fun z σ' hq => ?_)
      obtain ⟨hz, hs⟩ := hq
      replace hz := hz.symm
      subst hz
      replace hs := hs.symm
      subst hs
      refine AW_iret dX6_arm_103 rfl ?_
      refine ⟨_, rfl, ?_, hC1.fr hE1⟩
      unfold armQ
      rw [if_pos (by omega), if_pos (by decide), if_neg (by decide), if_pos rfl]
      exact ⟨f, f4, rfl⟩
    · refine AW_tableIn 104 dX6_arm_18 (by decide) (by decide) rfl (by decide) ?_
      refine AW_aload_n dX6_arm_104 rfl ?_
      refine AW_get dX6_arm_105 fX6_31 rfl rfl ?_
      refine AW_aload_n dX6_arm_108 rfl ?_
      refine AW_get dX6_arm_109 fX6_12 rfl rfl ?_
      refine AW_iload_n dX6_arm_112 rfl ?_
      refine AW_cVV2 dX6_arm_113 kX6_178 (am_fit_b rfl) rfl rfl (Nat.le_of_ble_eq_true rfl) (c_takeMost (n := n) PT_60 hS hT hA ⟨hTO, hG, hAO⟩ hmany (by omega)) (fun σ0 hqt => ?_)
      obtain ⟨g, pp, hE0, hP0, hF0, h0t, h0s⟩ := hqt
      have hmax0 := fail_max hP0.2.1 hF0
      have hC0 : CP σ σ0 X K Y := hC.plan (fun b h1 h2 => hE0.1 b (by simp only [List.mem_cons, List.not_mem_nil, or_false]; omega)) (fun b hb => hE0.1 b (by simp only [List.mem_cons, List.not_mem_nil, or_false]; omega)) (by rw [hE0.1 0 (by simp)]) hE0.2 (by
        rw [hE0.1 0 (by simp)]
        rcases hC.2.2.2.2.2 with c | ⟨c, d⟩
        · exact Or.inl c
        · exact Or.inr ⟨c, d.eq (fun b hb => hE0.1 b (by
            simp only [List.mem_cons, List.not_mem_nil, or_false] at hb ⊢
            omega))⟩)
      refine AW_aload_n dX6_arm_116 rfl ?_
      refine AW_cVR0 dX6_arm_117 kX6_122 (am_fit_b rfl) rfl rfl (Nat.le_of_ble_eq_true rfl) (c_freshPlan hC0.1) (fun zf σ1 hqf => ?_)
      obtain ⟨rfl, hE1, hC1, n', f, p, m, f1, f2, f3, f4, f5, f6, f7, f8, f9, f10⟩ := hqf
      obtain rfl : n = n' := by omega
      refine AW_get dX6_arm_120 fX6_182 rfl rfl ?_
      refine AW_aload_n dX6_arm_123 rfl ?_
      refine AW_get dX6_arm_124 fX6_31 rfl rfl ?_
      refine AW_get dX6_arm_127 fX6_182 rfl rfl ?_
      refine AW_isub dX6_arm_130 ?_
      refine AW_iret dX6_arm_131 rfl ?_
      refine ⟨_, rfl, ?_, ⟨hC1, fun b hb => ?_⟩⟩
      · unfold armQ
        rw [if_pos (by omega), if_pos (by decide), if_neg (by decide), if_neg (by decide)]
        refine ⟨m, sz g n, f7, hmax0.congr (fun _ _ _ => Iff.rfl) (fun j => ⟨fun h => ⟨Nat.zero_le _, h⟩, fun h => h.2⟩) (fun _ _ _ _ => Iff.rfl), ?_⟩
        rw [f6, hE1.1 60 (by simp), h0t]
      · rw [(hC1.fr hE1).2 b hb, hC0.2 b hb]
  · refine AW_if_ne 9 dX6_arm_4 (by decide) (by decide) (fun h => absurd h (by decide)) (fun _ => ?_)
    refine AW_iconst dX6_arm_7 ?_
    refine AW_iret dX6_arm_8 rfl ?_
    refine ⟨_, rfl, ?_, hC.rf⟩
    unfold armQ
    rw [if_neg (by omega)]
theorem c_thing {σ : am_S} {X K : Row} {Y : Nat → Row} (hC : CC σ X K Y) {n : Nat} (hmany : X 6423 = (n : Nat)) {thing what : Int} (hthing : -2147483648 ≤ thing ∧ thing < 2147483648) (hwhat : -2147483648 ≤ what ∧ what < 2147483648) : Runs am_tab mX6_thing [vR 0, vI thing, vI what] σ (QI (fun z σ' => thingR X n thing what z ∧ CP σ σ' X K Y)) := by
  refine Runs.of (by decide) rfl (by simp) (Nat.le_of_ble_eq_true rfl) ?_
  show AW am_tab mX6_thing 0 [some (vR 0), some (vI thing), some (vI what), none] [] σ _
  have hW := hC.1
  have hS := hW.1
  have hT := hW.2.1
  have hA := hW.2.2.1
  have hN := hW.2.2.2
  have hB := hC.2.1.1
  have hG := hC.2.1.2.1
  have hTO := hC.2.1.2.2.1
  have hAO := hC.2.1.2.2.2.1
  have hSN := hC.2.1.2.2.2.2.1
  have hm := hT.1
  have hc7 := hTO.1
  refine AW_aload_n dX6_thing_0 rfl ?_
  refine AW_iload_n dX6_thing_1 rfl ?_
  refine AW_cVI1 dX6_thing_2 kX6_101 (am_fit_b rfl) rfl rfl (Nat.le_of_ble_eq_true rfl) (c_isThing hthing (by omega)) (fun z σ' hq => ?_)
  obtain ⟨rfl, ⟨rfl, h2⟩ | ⟨rfl, h2⟩⟩ := hq
  · refine AW_if_ne 10 dX6_thing_5 (by decide) (by decide) (fun _ => ?_) (fun h => absurd (by decide) h)
    obtain ⟨k, rfl⟩ : ∃ k : Nat, thing = k := ⟨thing.toNat, by omega⟩
    refine AW_aload_n dX6_thing_10 rfl ?_
    refine AW_get dX6_thing_11 fX6_12 rfl rfl ?_
    refine AW_get dX6_thing_14 fX6_81 rfl rfl ?_
    refine AW_astore_n (i := 3) (lv' := [_, _, _, _]) dX6_thing_17 rfl (by decide) (Nat.le_of_ble_eq_true rfl) rfl ?_
    refine AW_iload_n dX6_thing_18 rfl ?_
    rcases (show (what < 0 ∨ 10 < what) ∨ what = 0 ∨ what = 1 ∨ what = 2 ∨ what = 3 ∨ what = 4 ∨ what = 5 ∨ what = 6 ∨ what = 7 ∨ what = 8 ∨ what = 9 ∨ what = 10 by omega) with hsw | rfl | rfl | rfl | rfl | rfl | rfl | rfl | rfl | rfl | rfl | rfl
    · refine AW_tableOut 170 dX6_thing_19 (by omega) hsw (by decide) ?_
      refine AW_bipush dX6_thing_170 (by decide) ?_
      refine AW_iret dX6_thing_172 rfl ?_
      refine ⟨_, rfl, ?_, hC.rf⟩
      unfold thingR
      rw [if_pos (by omega), if_neg (by omega)]
    · refine AW_tableIn 76 dX6_thing_19 (by decide) (by decide) rfl (by decide) ?_
      refine AW_aload_n dX6_thing_76 rfl ?_
      refine AW_get dX6_thing_77 fX6_107 rfl rfl ?_
      refine AW_iload_n dX6_thing_80 rfl ?_
      refine AW_ialdN (j := k) dX6_thing_81 rfl (Nat.le_of_ble_eq_true rfl) (by omega) (by omega) ?_
      refine AW_iret dX6_thing_82 rfl ?_
      refine ⟨_, rfl, ?_, hC.rf⟩
      unfold thingR
      rw [if_pos (by omega), if_pos (by decide), if_pos (by decide)]
      exact (hTO.2 k (by omega)).1.trans (congrArg X (by omega))
    · refine AW_tableIn 83 dX6_thing_19 (by decide) (by decide) rfl (by decide) ?_
      refine AW_aload_n dX6_thing_83 rfl ?_
      refine AW_get dX6_thing_84 fX6_110 rfl rfl ?_
      refine AW_iload_n dX6_thing_87 rfl ?_
      refine AW_ialdN (j := k) dX6_thing_88 rfl (Nat.le_of_ble_eq_true rfl) (by omega) (by omega) ?_
      refine AW_iret dX6_thing_89 rfl ?_
      refine ⟨_, rfl, ?_, hC.rf⟩
      unfold thingR
      rw [if_pos (by omega), if_pos (by decide), if_pos (by decide)]
      exact (hTO.2 k (by omega)).2.1.trans (congrArg X (by omega))
    · refine AW_tableIn 90 dX6_thing_19 (by decide) (by decide) rfl (by decide) ?_
      refine AW_aload_n dX6_thing_90 rfl ?_
      refine AW_get dX6_thing_91 fX6_113 rfl rfl ?_
      refine AW_iload_n dX6_thing_94 rfl ?_
      refine AW_ialdN (j := k) dX6_thing_95 rfl (Nat.le_of_ble_eq_true rfl) (by omega) (by omega) ?_
      refine AW_iret dX6_thing_96 rfl ?_
      refine ⟨_, rfl, ?_, hC.rf⟩
      unfold thingR
      rw [if_pos (by omega), if_pos (by decide), if_pos (by decide)]
      exact (hTO.2 k (by omega)).2.2.1.trans (congrArg X (by omega))
    · refine AW_tableIn 97 dX6_thing_19 (by decide) (by decide) rfl (by decide) ?_
      refine AW_aload_n dX6_thing_97 rfl ?_
      refine AW_get dX6_thing_98 fX6_116 rfl rfl ?_
      refine AW_iload_n dX6_thing_101 rfl ?_
      refine AW_ialdN (j := k) dX6_thing_102 rfl (Nat.le_of_ble_eq_true rfl) (by omega) (by omega) ?_
      refine AW_iret dX6_thing_103 rfl ?_
      refine ⟨_, rfl, ?_, hC.rf⟩
      unfold thingR
      rw [if_pos (by omega), if_pos (by decide), if_pos (by decide)]
      exact (hTO.2 k (by omega)).2.2.2.trans (congrArg X (by omega))
    · refine AW_tableIn 104 dX6_thing_19 (by decide) (by decide) rfl (by decide) ?_
      refine AW_aload_n dX6_thing_104 rfl ?_
      refine AW_iload_n dX6_thing_105 rfl ?_
      refine AW_cVI1 dX6_thing_106 kX6_119 (am_fit_b rfl) rfl rfl (Nat.le_of_ble_eq_true rfl) (c_timesSeen hT hSN (by omega)) (fun z σ' hq => ?_)
      obtain ⟨hz, hs⟩ := hq
      replace hz := hz.symm
      subst hz
      replace hs := hs.symm
      subst hs
      refine AW_iret dX6_thing_109 rfl ?_
      refine ⟨_, rfl, ?_, hC.rf⟩
      unfold thingR
      rw [if_pos (by omega), if_pos (by decide), if_neg (by decide), if_pos rfl]
      rfl
    · refine AW_tableIn 110 dX6_thing_19 (by decide) (by decide) rfl (by decide) ?_
      refine AW_aload_n dX6_thing_110 rfl ?_
      refine AW_cVR0 dX6_thing_111 kX6_122 (am_fit_b rfl) rfl rfl (Nat.le_of_ble_eq_true rfl) (c_freshPlan hC) (fun zf σ1 hqf => ?_)
      obtain ⟨rfl, hE1, hC1, n', f, p, m, f1, f2, f3, f4, f5, f6, f7, f8, f9, f10⟩ := hqf
      obtain rfl : n = n' := by omega
      refine AW_iload_n dX6_thing_114 rfl ?_
      refine AW_cVI1 dX6_thing_115 kX6_126 (am_fit_b rfl) rfl rfl (Nat.le_of_ble_eq_true rfl) (c_tickOf (n := n) (q := 53) (f := f) PT_53 (by omega) f2 (by omega)) (fun z σ' hq => ?_)
      obtain ⟨hz, hs⟩ := hq
      replace hz := hz.symm
      subst hz
      replace hs := hs.symm
      subst hs
      refine AW_iret dX6_thing_118 rfl ?_
      refine ⟨_, rfl, ?_, hC1.fr hE1⟩
      unfold thingR
      rw [if_pos (by omega), if_pos (by decide), if_neg (by decide), if_neg (by decide), if_pos (by decide)]
      refine ⟨f, f4, ?_⟩
      rw [if_pos rfl]
      rfl
    · refine AW_tableIn 119 dX6_thing_19 (by decide) (by decide) rfl (by decide) ?_
      refine AW_aload_n dX6_thing_119 rfl ?_
      refine AW_cVR0 dX6_thing_120 kX6_122 (am_fit_b rfl) rfl rfl (Nat.le_of_ble_eq_true rfl) (c_freshPlan hC) (fun zf σ1 hqf => ?_)
      obtain ⟨rfl, hE1, hC1, n', f, p, m, f1, f2, f3, f4, f5, f6, f7, f8, f9, f10⟩ := hqf
      obtain rfl : n = n' := by omega
      refine AW_iload_n dX6_thing_123 rfl ?_
      refine AW_cVI1 dX6_thing_124 kX6_129 (am_fit_b rfl) rfl rfl (Nat.le_of_ble_eq_true rfl) (c_armOf (n := n) (q := 53) (f := f) PT_53 (by omega) f2 (by omega)) (fun z σ' hq => ?_)
      obtain ⟨hz, hs⟩ := hq
      replace hz := hz.symm
      subst hz
      replace hs := hs.symm
      subst hs
      refine AW_iret dX6_thing_127 rfl ?_
      refine ⟨_, rfl, ?_, hC1.fr hE1⟩
      unfold thingR
      rw [if_pos (by omega), if_pos (by decide), if_neg (by decide), if_neg (by decide), if_pos (by decide)]
      refine ⟨f, f4, ?_⟩
      rw [if_neg (by decide), if_pos rfl]
      rfl
    · refine AW_tableIn 128 dX6_thing_19 (by decide) (by decide) rfl (by decide) ?_
      refine AW_aload_n dX6_thing_128 rfl ?_
      refine AW_cVR0 dX6_thing_129 kX6_122 (am_fit_b rfl) rfl rfl (Nat.le_of_ble_eq_true rfl) (c_freshPlan hC) (fun zf σ1 hqf => ?_)
      obtain ⟨rfl, hE1, hC1, n', f, p, m, f1, f2, f3, f4, f5, f6, f7, f8, f9, f10⟩ := hqf
      obtain rfl : n = n' := by omega
      first | refine AW_popR dX6_thing_132 ?_ | refine AW_popI dX6_thing_132 ?_
      refine AW_aload_n dX6_thing_133 rfl ?_
      refine AW_get dX6_thing_134 fX6_37 rfl rfl ?_
      refine AW_get dX6_thing_137 fX6_132 rfl rfl ?_
      refine AW_iload_n dX6_thing_140 rfl ?_
      refine AW_ialdN (j := k) dX6_thing_141 rfl (Nat.le_of_ble_eq_true rfl) (by omega) (by omega) ?_
      refine AW_iret dX6_thing_142 rfl ?_
      refine ⟨_, rfl, ?_, hC1.fr hE1⟩
      unfold thingR
      rw [if_pos (by omega), if_pos (by decide), if_neg (by decide), if_neg (by decide), if_pos (by decide)]
      refine ⟨f, f4, ?_⟩
      rw [if_neg (by decide), if_neg (by decide)]
      exact f10.2 k (by omega)
    · refine AW_tableIn 143 dX6_thing_19 (by decide) (by decide) rfl (by decide) ?_
      refine AW_aload_n dX6_thing_143 rfl ?_
      refine AW_get dX6_thing_144 fX6_12 rfl rfl ?_
      refine AW_iload_n dX6_thing_147 rfl ?_
      refine AW_cVI1 dX6_thing_148 kX6_135 (am_fit_b rfl) rfl rfl (Nat.le_of_ble_eq_true rfl) (c_firstChance hS hT hTO hG hAO hA (by omega)) (fun z σ' hq => ?_)
      obtain ⟨hz, hs⟩ := hq
      replace hz := hz.symm
      subst hz
      replace hs := hs.symm
      subst hs
      refine AW_iret dX6_thing_151 rfl ?_
      refine ⟨_, rfl, ?_, hC.rf⟩
      unfold thingR
      rw [if_pos (by omega), if_pos (by decide), if_neg (by decide), if_neg (by decide), if_neg (by decide)]
      rw [if_pos rfl]
      rfl
    · refine AW_tableIn 152 dX6_thing_19 (by decide) (by decide) rfl (by decide) ?_
      refine AW_aload_n dX6_thing_152 rfl ?_
      refine AW_get dX6_thing_153 fX6_12 rfl rfl ?_
      refine AW_iload_n dX6_thing_156 rfl ?_
      refine AW_cVI1 dX6_thing_157 kX6_138 (am_fit_b rfl) rfl rfl (Nat.le_of_ble_eq_true rfl) (c_lastChance hS hT hTO hG hAO hA (by omega)) (fun z σ' hq => ?_)
      obtain ⟨hz, hs⟩ := hq
      replace hz := hz.symm
      subst hz
      replace hs := hs.symm
      subst hs
      refine AW_iret dX6_thing_160 rfl ?_
      refine ⟨_, rfl, ?_, hC.rf⟩
      unfold thingR
      rw [if_pos (by omega), if_pos (by decide), if_neg (by decide), if_neg (by decide), if_neg (by decide)]
      rw [if_neg (by decide), if_pos rfl]
      rfl
    · refine AW_tableIn 161 dX6_thing_19 (by decide) (by decide) rfl (by decide) ?_
      refine AW_aload_n dX6_thing_161 rfl ?_
      refine AW_get dX6_thing_162 fX6_12 rfl rfl ?_
      refine AW_iload_n dX6_thing_165 rfl ?_
      refine AW_cVI1 dX6_thing_166 kX6_141 (am_fit_b rfl) rfl rfl (Nat.le_of_ble_eq_true rfl) (c_chances hS hT hTO hG hAO hA (by omega)) (fun z σ' hq => ?_)
      obtain ⟨hz, hs⟩ := hq
      replace hz := hz.symm
      subst hz
      replace hs := hs.symm
      subst hs
      refine AW_iret dX6_thing_169 rfl ?_
      refine ⟨_, rfl, ?_, hC.rf⟩
      unfold thingR
      rw [if_pos (by omega), if_pos (by decide), if_neg (by decide), if_neg (by decide), if_neg (by decide)]
      rw [if_neg (by decide), if_neg (by decide)]
      rfl
  · refine AW_if_ne 10 dX6_thing_5 (by decide) (by decide) (fun h => absurd h (by decide)) (fun _ => ?_)
    refine AW_iconst dX6_thing_8 ?_
    refine AW_iret dX6_thing_9 rfl ?_
    refine ⟨_, rfl, ?_, hC.rf⟩
    unfold thingR
    rw [if_neg (by omega)]
