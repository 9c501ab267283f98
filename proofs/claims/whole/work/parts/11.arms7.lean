def hitN (X : Row) (arm fr ti : Int) : Nat → Bool
  | 0 => false
  | a + 1 => hitN X arm fr ti a || decide ((a : Int) ≠ arm ∧ X (6401 + a) ≤ ti ∧ fr ≤ X (6405 + a))
def reachS (X : Row) (arm fr ti : Int) : Int × Row := if 0 ≤ arm ∧ arm ≤ 3 then (if 0 ≤ fr ∧ fr ≤ ti ∧ ti ≤ 999 then (if hitN X arm fr ti 4 = true then (-5, X) else (1, rup (rup X (6401 + arm.toNat) fr) (6405 + arm.toNat) ti)) else (-2, X)) else (-1, X)
def beatS (X : Row) (arm n off : Int) : Int × Row := if 0 ≤ arm ∧ arm ≤ 3 then (if (1 ≤ n ∧ n ≤ 20) ∧ 0 ≤ off ∧ off ≤ n - 1 then (1, rup (rup X (6409 + arm.toNat) n) (6413 + arm.toNat) off) else (-2, X)) else (-1, X)
def lanesS (X : Row) (arm set : Int) : Int × Row := if 0 ≤ arm ∧ arm ≤ 3 then (if 0 ≤ set ∧ set ≤ 15 then (X (6417 + arm.toNat), rup X (6417 + arm.toNat) set) else (-2, X)) else (-1, X)
def setS (X : Row) (what n : Int) : Int × Row := if what = 0 ∧ 0 ≤ n ∧ n ≤ 20 then (X 6421, rup X 6421 n) else if what = 1 ∧ 1 ≤ n ∧ n ≤ 6 then (X 6422, rup X 6422 n) else (-2, X)
theorem hitN_true {X : Row} {arm fr ti : Int} {a : Nat} (h : (a : Int) ≠ arm ∧ X (6401 + a) ≤ ti ∧ fr ≤ X (6405 + a)) : ∀ b, a < b → hitN X arm fr ti b = true := by
  intro b
  induction b with
  | zero => intro h; omega
  | succ b ih =>
    intro hb
    simp only [hitN, Bool.or_eq_true, decide_eq_true_eq]
    by_cases e : a = b
    · subst e; exact Or.inr h
    · exact Or.inl (ih (by omega))
theorem l_reach7 {σ : am_S} (hA : WA (σ.1 71)) {arm fr ti : Int} (harm : -2147483648 ≤ arm ∧ arm < 2147483648) (hfr : -2147483648 ≤ fr ∧ fr < 2147483648) (hti : -2147483648 ≤ ti ∧ ti < 2147483648) {Q : Option am_V → am_S → Prop} (hno : hitN (σ.1 71) arm fr ti 4 = true → Q (some (vI (-5))) σ) (hk : hitN (σ.1 71) arm fr ti 4 = false → AW am_tab mX7_reach 93 [some (vR 70), some (vI arm), some (vI fr), some (vI ti), some (vI (4 : Nat))] [] σ Q) : ∀ i : Nat, i ≤ 4 → hitN (σ.1 71) arm fr ti i = false → AW am_tab mX7_reach 42 [some (vR 70), some (vI arm), some (vI fr), some (vI ti), some (vI i)] [] σ Q :=
  up_loop (fun i hi ih hi2 => by
    refine AW_iload dX7_reach_42 rfl ?_
    refine AW_iconst dX7_reach_44 ?_
    refine AW_icmp_ge 93 dX7_reach_45 (by decide) (by omega) (by omega) (fun h45 => ?_) (fun h45 => ?_)
    · have e : i = 4 := by omega
      subst e
      exact hk hi2
    · refine AW_iload dX7_reach_48 rfl ?_
      refine AW_iload_n dX7_reach_50 rfl ?_
      refine AW_icmp_eq 87 dX7_reach_51 (by decide) (by omega) (by omega) (fun h51 => ?_) (fun h51 => ?_)
      · refine AW_iinc (lv' := [_, _, _, _, _]) dX7_reach_87 rfl (by decide) rfl ?_
        refine AW_goto (tgt := 42) dX7_reach_90 (by decide) ?_
        have e : hitN (σ.1 71) arm fr ti (i + 1) = false := by
          simp only [hitN, hi2, Bool.false_or, decide_eq_false_iff_not]
          omega
        exact ih (by omega) e
      · refine AW_aload_n dX7_reach_54 rfl ?_
        refine AW_get dX7_reach_55 fX7_7 rfl rfl ?_
        refine AW_sipush dX7_reach_58 (by decide) ?_
        refine AW_iload dX7_reach_61 rfl ?_
        refine AW_iadd dX7_reach_63 ?_
        refine AW_ialdN (j := 6401 + i) dX7_reach_64 rfl (Nat.le_of_ble_eq_true rfl) (by omega) (by omega) ?_
        refine AW_iload_n dX7_reach_65 rfl ?_
        have hb := hA.1 i (by omega)
        refine AW_icmp_gt 87 dX7_reach_66 (by decide) (by omega) (by omega) (fun h66 => ?_) (fun h66 => ?_)
        · refine AW_iinc (lv' := [_, _, _, _, _]) dX7_reach_87 rfl (by decide) rfl ?_
          refine AW_goto (tgt := 42) dX7_reach_90 (by decide) ?_
          have e : hitN (σ.1 71) arm fr ti (i + 1) = false := by
            simp only [hitN, hi2, Bool.false_or, decide_eq_false_iff_not]
            omega
          exact ih (by omega) e
        · refine AW_iload_n dX7_reach_69 rfl ?_
          refine AW_aload_n dX7_reach_70 rfl ?_
          refine AW_get dX7_reach_71 fX7_7 rfl rfl ?_
          refine AW_sipush dX7_reach_74 (by decide) ?_
          refine AW_iload dX7_reach_77 rfl ?_
          refine AW_iadd dX7_reach_79 ?_
          refine AW_ialdN (j := 6405 + i) dX7_reach_80 rfl (Nat.le_of_ble_eq_true rfl) (by omega) (by omega) ?_
          refine AW_icmp_gt 87 dX7_reach_81 (by decide) (by omega) (by omega) (fun h81 => ?_) (fun h81 => ?_)
          · refine AW_iinc (lv' := [_, _, _, _, _]) dX7_reach_87 rfl (by decide) rfl ?_
            refine AW_goto (tgt := 42) dX7_reach_90 (by decide) ?_
            have e : hitN (σ.1 71) arm fr ti (i + 1) = false := by
              simp only [hitN, hi2, Bool.false_or, decide_eq_false_iff_not]
              omega
            exact ih (by omega) e
          · refine AW_bipush dX7_reach_84 (by decide) ?_
            refine AW_iret dX7_reach_86 rfl ?_
            exact hno (hitN_true (a := i) (by omega) 4 (by omega)))
theorem c_reach7 {σ : am_S} (hA : WA (σ.1 71)) {arm fr ti : Int} (harm : -2147483648 ≤ arm ∧ arm < 2147483648) (hfr : -2147483648 ≤ fr ∧ fr < 2147483648) (hti : -2147483648 ≤ ti ∧ ti < 2147483648) : Runs am_tab mX7_reach [vR 70, vI arm, vI fr, vI ti] σ (QI (fun z σ' => z = (reachS (σ.1 71) arm fr ti).1 ∧ MS σ σ' (reachS (σ.1 71) arm fr ti).2)) := by
  refine Runs.of (by decide) rfl (by simp) (Nat.le_of_ble_eq_true rfl) ?_
  show AW am_tab mX7_reach 0 [some (vR 70), some (vI arm), some (vI fr), some (vI ti), none] [] σ _
  refine AW_iload_n dX7_reach_0 rfl ?_
  refine AW_cSI1 dX7_reach_1 kX7_89 (am_fit_b rfl) (Nat.le_of_ble_eq_true rfl) (c_isArm7 harm) (fun z σ' hq => ?_)
  obtain ⟨rfl, ⟨rfl, h1⟩ | ⟨rfl, h1⟩⟩ := hq
  · refine AW_if_ne 9 dX7_reach_4 (by decide) (by decide) (fun _ => ?_) (fun h => absurd (by decide) h)
    refine AW_iload_n dX7_reach_9 rfl ?_
    refine AW_iconst dX7_reach_10 ?_
    refine AW_sipush dX7_reach_11 (by decide) ?_
    refine AW_cSI3 dX7_reach_14 kX7_56 (am_fit_b rfl) (Nat.le_of_ble_eq_true rfl) (c_in hfr (by omega) (by omega)) (fun z σ' hq => ?_)
    obtain ⟨rfl, ⟨rfl, h14⟩ | ⟨rfl, h14⟩⟩ := hq
    · refine AW_if_eq 36 dX7_reach_17 (by decide) (by decide) (fun h => absurd h (by decide)) (fun _ => ?_)
      refine AW_iload_n dX7_reach_20 rfl ?_
      refine AW_iconst dX7_reach_21 ?_
      refine AW_sipush dX7_reach_22 (by decide) ?_
      refine AW_cSI3 dX7_reach_25 kX7_56 (am_fit_b rfl) (Nat.le_of_ble_eq_true rfl) (c_in hti (by omega) (by omega)) (fun z σ' hq => ?_)
      obtain ⟨rfl, ⟨rfl, h25⟩ | ⟨rfl, h25⟩⟩ := hq
      · refine AW_if_eq 36 dX7_reach_28 (by decide) (by decide) (fun h => absurd h (by decide)) (fun _ => ?_)
        refine AW_iload_n dX7_reach_31 rfl ?_
        refine AW_iload_n dX7_reach_32 rfl ?_
        refine AW_icmp_le 39 dX7_reach_33 (by decide) (by omega) (by omega) (fun h33 => ?_) (fun h33 => ?_)
        · refine AW_iconst dX7_reach_39 ?_
          refine AW_istore (lv' := [_, _, _, _, _]) dX7_reach_40 (by decide) (Nat.le_of_ble_eq_true rfl) rfl ?_
          obtain ⟨a, rfl⟩ : ∃ a : Nat, arm = a := ⟨arm.toNat, by omega⟩
          refine l_reach7 hA (by omega) hfr hti (fun h => ?_) (fun h => ?_) 0 (by omega) rfl
          · refine ⟨_, rfl, ?_⟩
            simp only [reachS, Int.toNat_natCast]
            rw [if_pos (by omega), if_pos (by omega), if_pos h]
            exact ⟨rfl, MS.rf⟩
          · refine AW_aload_n dX7_reach_93 rfl ?_
            refine AW_get dX7_reach_94 fX7_7 rfl rfl ?_
            refine AW_sipush dX7_reach_97 (by decide) ?_
            refine AW_iload_n dX7_reach_100 rfl ?_
            refine AW_iadd dX7_reach_101 ?_
            refine AW_iload_n dX7_reach_102 rfl ?_
            refine AW_iastN (j := 6401 + a) dX7_reach_103 rfl (Nat.le_of_ble_eq_true rfl) (by omega) (by omega) ?_
            refine AW_aload_n dX7_reach_104 rfl ?_
            refine AW_get dX7_reach_105 fX7_7 rfl rfl ?_
            refine AW_sipush dX7_reach_108 (by decide) ?_
            refine AW_iload_n dX7_reach_111 rfl ?_
            refine AW_iadd dX7_reach_112 ?_
            refine AW_iload_n dX7_reach_113 rfl ?_
            refine AW_iastN (j := 6405 + a) dX7_reach_114 rfl (Nat.le_of_ble_eq_true rfl) (by omega) (by omega) ?_
            refine AW_iconst dX7_reach_115 ?_
            refine AW_iret dX7_reach_116 rfl ?_
            refine ⟨_, rfl, ?_⟩
            simp only [reachS, Int.toNat_natCast]
            rw [if_pos (by omega), if_pos (by omega), if_neg (by rw [h]; decide)]
            exact ⟨rfl, MS.rf.set.set⟩
        · refine AW_bipush dX7_reach_36 (by decide) ?_
          refine AW_iret dX7_reach_38 rfl ?_
          refine ⟨_, rfl, ?_⟩
          simp only [reachS, Int.toNat_natCast]
          rw [if_pos (by omega), if_neg (by omega)]
          exact ⟨rfl, MS.rf⟩
      · refine AW_if_eq 36 dX7_reach_28 (by decide) (by decide) (fun _ => ?_) (fun h => absurd (by decide) h)
        refine AW_bipush dX7_reach_36 (by decide) ?_
        refine AW_iret dX7_reach_38 rfl ?_
        refine ⟨_, rfl, ?_⟩
        simp only [reachS, Int.toNat_natCast]
        rw [if_pos (by omega), if_neg (by omega)]
        exact ⟨rfl, MS.rf⟩
    · refine AW_if_eq 36 dX7_reach_17 (by decide) (by decide) (fun _ => ?_) (fun h => absurd (by decide) h)
      refine AW_bipush dX7_reach_36 (by decide) ?_
      refine AW_iret dX7_reach_38 rfl ?_
      refine ⟨_, rfl, ?_⟩
      simp only [reachS, Int.toNat_natCast]
      rw [if_pos (by omega), if_neg (by omega)]
      exact ⟨rfl, MS.rf⟩
  · refine AW_if_ne 9 dX7_reach_4 (by decide) (by decide) (fun h => absurd h (by decide)) (fun _ => ?_)
    refine AW_iconst dX7_reach_7 ?_
    refine AW_iret dX7_reach_8 rfl ?_
    refine ⟨_, rfl, ?_⟩
    simp only [reachS, Int.toNat_natCast]
    rw [if_neg (by omega)]
    exact ⟨rfl, MS.rf⟩
theorem c_beat7 {σ : am_S} {arm n off : Int} (harm : -2147483648 ≤ arm ∧ arm < 2147483648) (hn : -2147483648 ≤ n ∧ n < 2147483648) (hoff : -2147483648 ≤ off ∧ off < 2147483648) : Runs am_tab mX7_beat [vR 70, vI arm, vI n, vI off] σ (QI (fun z σ' => z = (beatS (σ.1 71) arm n off).1 ∧ MS σ σ' (beatS (σ.1 71) arm n off).2)) := by
  refine Runs.of (by decide) rfl (by simp) (Nat.le_of_ble_eq_true rfl) ?_
  show AW am_tab mX7_beat 0 [some (vR 70), some (vI arm), some (vI n), some (vI off)] [] σ _
  refine AW_iload_n dX7_beat_0 rfl ?_
  refine AW_cSI1 dX7_beat_1 kX7_89 (am_fit_b rfl) (Nat.le_of_ble_eq_true rfl) (c_isArm7 harm) (fun z σ' hq => ?_)
  obtain ⟨rfl, ⟨rfl, h1⟩ | ⟨rfl, h1⟩⟩ := hq
  · refine AW_if_ne 9 dX7_beat_4 (by decide) (by decide) (fun _ => ?_) (fun h => absurd (by decide) h)
    refine AW_iload_n dX7_beat_9 rfl ?_
    refine AW_iconst dX7_beat_10 ?_
    refine AW_bipush dX7_beat_11 (by decide) ?_
    refine AW_cSI3 dX7_beat_13 kX7_56 (am_fit_b rfl) (Nat.le_of_ble_eq_true rfl) (c_in hn (by omega) (by omega)) (fun z σ' hq => ?_)
    obtain ⟨rfl, ⟨rfl, h13⟩ | ⟨rfl, h13⟩⟩ := hq
    · refine AW_if_eq 30 dX7_beat_16 (by decide) (by decide) (fun h => absurd h (by decide)) (fun _ => ?_)
      refine AW_iload_n dX7_beat_19 rfl ?_
      refine AW_iconst dX7_beat_20 ?_
      refine AW_iload_n dX7_beat_21 rfl ?_
      refine AW_iconst dX7_beat_22 ?_
      refine AW_isub dX7_beat_23 ?_
      refine AW_cSI3 dX7_beat_24 kX7_56 (am_fit_b rfl) (Nat.le_of_ble_eq_true rfl) (c_in hoff (by omega) (by omega)) (fun z σ' hq => ?_)
      obtain ⟨rfl, ⟨rfl, h24⟩ | ⟨rfl, h24⟩⟩ := hq
      · refine AW_if_ne 33 dX7_beat_27 (by decide) (by decide) (fun _ => ?_) (fun h => absurd (by decide) h)
        obtain ⟨a, rfl⟩ : ∃ a : Nat, arm = a := ⟨arm.toNat, by omega⟩
        refine AW_aload_n dX7_beat_33 rfl ?_
        refine AW_get dX7_beat_34 fX7_7 rfl rfl ?_
        refine AW_sipush dX7_beat_37 (by decide) ?_
        refine AW_iload_n dX7_beat_40 rfl ?_
        refine AW_iadd dX7_beat_41 ?_
        refine AW_iload_n dX7_beat_42 rfl ?_
        refine AW_iastN (j := 6409 + a) dX7_beat_43 rfl (Nat.le_of_ble_eq_true rfl) (by omega) (by omega) ?_
        refine AW_aload_n dX7_beat_44 rfl ?_
        refine AW_get dX7_beat_45 fX7_7 rfl rfl ?_
        refine AW_sipush dX7_beat_48 (by decide) ?_
        refine AW_iload_n dX7_beat_51 rfl ?_
        refine AW_iadd dX7_beat_52 ?_
        refine AW_iload_n dX7_beat_53 rfl ?_
        refine AW_iastN (j := 6413 + a) dX7_beat_54 rfl (Nat.le_of_ble_eq_true rfl) (by omega) (by omega) ?_
        refine AW_iconst dX7_beat_55 ?_
        refine AW_iret dX7_beat_56 rfl ?_
        refine ⟨_, rfl, ?_⟩
        simp only [beatS, Int.toNat_natCast]
        rw [if_pos (by omega), if_pos (by omega)]
        exact ⟨rfl, MS.rf.set.set⟩
      · refine AW_if_ne 33 dX7_beat_27 (by decide) (by decide) (fun h => absurd h (by decide)) (fun _ => ?_)
        refine AW_bipush dX7_beat_30 (by decide) ?_
        refine AW_iret dX7_beat_32 rfl ?_
        refine ⟨_, rfl, ?_⟩
        simp only [beatS, Int.toNat_natCast]
        rw [if_pos (by omega), if_neg (by omega)]
        exact ⟨rfl, MS.rf⟩
    · refine AW_if_eq 30 dX7_beat_16 (by decide) (by decide) (fun _ => ?_) (fun h => absurd (by decide) h)
      refine AW_bipush dX7_beat_30 (by decide) ?_
      refine AW_iret dX7_beat_32 rfl ?_
      refine ⟨_, rfl, ?_⟩
      simp only [beatS, Int.toNat_natCast]
      rw [if_pos (by omega), if_neg (by omega)]
      exact ⟨rfl, MS.rf⟩
  · refine AW_if_ne 9 dX7_beat_4 (by decide) (by decide) (fun h => absurd h (by decide)) (fun _ => ?_)
    refine AW_iconst dX7_beat_7 ?_
    refine AW_iret dX7_beat_8 rfl ?_
    refine ⟨_, rfl, ?_⟩
    simp only [beatS, Int.toNat_natCast]
    rw [if_neg (by omega)]
    exact ⟨rfl, MS.rf⟩
theorem c_lanes7 {σ : am_S} {arm set : Int} (harm : -2147483648 ≤ arm ∧ arm < 2147483648) (hset : -2147483648 ≤ set ∧ set < 2147483648) : Runs am_tab mX7_lanes [vR 70, vI arm, vI set] σ (QI (fun z σ' => z = (lanesS (σ.1 71) arm set).1 ∧ MS σ σ' (lanesS (σ.1 71) arm set).2)) := by
  refine Runs.of (by decide) rfl (by simp) (Nat.le_of_ble_eq_true rfl) ?_
  show AW am_tab mX7_lanes 0 [some (vR 70), some (vI arm), some (vI set), none] [] σ _
  refine AW_iload_n dX7_lanes_0 rfl ?_
  refine AW_cSI1 dX7_lanes_1 kX7_89 (am_fit_b rfl) (Nat.le_of_ble_eq_true rfl) (c_isArm7 harm) (fun z σ' hq => ?_)
  obtain ⟨rfl, ⟨rfl, h1⟩ | ⟨rfl, h1⟩⟩ := hq
  · refine AW_if_ne 9 dX7_lanes_4 (by decide) (by decide) (fun _ => ?_) (fun h => absurd (by decide) h)
    refine AW_iload_n dX7_lanes_9 rfl ?_
    refine AW_iconst dX7_lanes_10 ?_
    refine AW_bipush dX7_lanes_11 (by decide) ?_
    refine AW_cSI3 dX7_lanes_13 kX7_56 (am_fit_b rfl) (Nat.le_of_ble_eq_true rfl) (c_in hset (by omega) (by omega)) (fun z σ' hq => ?_)
    obtain ⟨rfl, ⟨rfl, h13⟩ | ⟨rfl, h13⟩⟩ := hq
    · refine AW_if_ne 22 dX7_lanes_16 (by decide) (by decide) (fun _ => ?_) (fun h => absurd (by decide) h)
      obtain ⟨a, rfl⟩ : ∃ a : Nat, arm = a := ⟨arm.toNat, by omega⟩
      refine AW_aload_n dX7_lanes_22 rfl ?_
      refine AW_get dX7_lanes_23 fX7_7 rfl rfl ?_
      refine AW_sipush dX7_lanes_26 (by decide) ?_
      refine AW_iload_n dX7_lanes_29 rfl ?_
      refine AW_iadd dX7_lanes_30 ?_
      refine AW_ialdN (j := 6417 + a) dX7_lanes_31 rfl (Nat.le_of_ble_eq_true rfl) (by omega) (by omega) ?_
      refine AW_istore_n (i := 3) (lv' := [_, _, _, _]) dX7_lanes_32 rfl (by decide) (Nat.le_of_ble_eq_true rfl) rfl ?_
      refine AW_aload_n dX7_lanes_33 rfl ?_
      refine AW_get dX7_lanes_34 fX7_7 rfl rfl ?_
      refine AW_sipush dX7_lanes_37 (by decide) ?_
      refine AW_iload_n dX7_lanes_40 rfl ?_
      refine AW_iadd dX7_lanes_41 ?_
      refine AW_iload_n dX7_lanes_42 rfl ?_
      refine AW_iastN (j := 6417 + a) dX7_lanes_43 rfl (Nat.le_of_ble_eq_true rfl) (by omega) (by omega) ?_
      refine AW_iload_n dX7_lanes_44 rfl ?_
      refine AW_iret dX7_lanes_45 rfl ?_
      refine ⟨_, rfl, ?_⟩
      simp only [lanesS, Int.toNat_natCast]
      rw [if_pos (by omega), if_pos (by omega)]
      exact ⟨rfl, MS.rf.set⟩
    · refine AW_if_ne 22 dX7_lanes_16 (by decide) (by decide) (fun h => absurd h (by decide)) (fun _ => ?_)
      refine AW_bipush dX7_lanes_19 (by decide) ?_
      refine AW_iret dX7_lanes_21 rfl ?_
      refine ⟨_, rfl, ?_⟩
      simp only [lanesS, Int.toNat_natCast]
      rw [if_pos (by omega), if_neg (by omega)]
      exact ⟨rfl, MS.rf⟩
  · refine AW_if_ne 9 dX7_lanes_4 (by decide) (by decide) (fun h => absurd h (by decide)) (fun _ => ?_)
    refine AW_iconst dX7_lanes_7 ?_
    refine AW_iret dX7_lanes_8 rfl ?_
    refine ⟨_, rfl, ?_⟩
    simp only [lanesS, Int.toNat_natCast]
    rw [if_neg (by omega)]
    exact ⟨rfl, MS.rf⟩
theorem c_set7 {σ : am_S} {what n : Int} (hwhat : -2147483648 ≤ what ∧ what < 2147483648) (hn : -2147483648 ≤ n ∧ n < 2147483648) : Runs am_tab mX7_set [vR 70, vI what, vI n] σ (QI (fun z σ' => z = (setS (σ.1 71) what n).1 ∧ MS σ σ' (setS (σ.1 71) what n).2)) := by
  refine Runs.of (by decide) rfl (by simp) (Nat.le_of_ble_eq_true rfl) ?_
  show AW am_tab mX7_set 0 [some (vR 70), some (vI what), some (vI n), none] [] σ _
  refine AW_iload_n dX7_set_0 rfl ?_
  refine AW_iconst dX7_set_1 ?_
  refine AW_iconst dX7_set_2 ?_
  refine AW_cSI3 dX7_set_3 kX7_56 (am_fit_b rfl) (Nat.le_of_ble_eq_true rfl) (c_in hwhat (by omega) (by omega)) (fun z σ' hq => ?_)
  obtain ⟨rfl, ⟨rfl, h3⟩ | ⟨rfl, h3⟩⟩ := hq
  · refine AW_if_eq 28 dX7_set_6 (by decide) (by decide) (fun h => absurd h (by decide)) (fun _ => ?_)
    refine AW_iload_n dX7_set_9 rfl ?_
    refine AW_iload_n dX7_set_10 rfl ?_
    refine AW_iload_n dX7_set_11 rfl ?_
    refine AW_if_ne 20 dX7_set_12 (by decide) (by omega) (fun h12 => ?_) (fun h12 => ?_)
    · refine AW_bipush dX7_set_20 (by decide) ?_
      refine AW_cSI3 dX7_set_22 kX7_56 (am_fit_b rfl) (Nat.le_of_ble_eq_true rfl) (c_in hn (by omega) (by omega)) (fun z σ' hq => ?_)
      obtain ⟨rfl, ⟨rfl, h22⟩ | ⟨rfl, h22⟩⟩ := hq
      · refine AW_if_ne 31 dX7_set_25 (by decide) (by decide) (fun _ => ?_) (fun h => absurd (by decide) h)
        rcases (show what = 0 ∨ what = 1 by omega) with rfl | rfl
        · refine AW_aload_n dX7_set_31 rfl ?_
          refine AW_get dX7_set_32 fX7_7 rfl rfl ?_
          refine AW_sipush dX7_set_35 (by decide) ?_
          refine AW_iload_n dX7_set_38 rfl ?_
          refine AW_iadd dX7_set_39 ?_
          refine AW_ialdN (j := 6421) dX7_set_40 rfl (Nat.le_of_ble_eq_true rfl) (by omega) (by omega) ?_
          refine AW_istore_n (i := 3) (lv' := [_, _, _, _]) dX7_set_41 rfl (by decide) (Nat.le_of_ble_eq_true rfl) rfl ?_
          refine AW_aload_n dX7_set_42 rfl ?_
          refine AW_get dX7_set_43 fX7_7 rfl rfl ?_
          refine AW_sipush dX7_set_46 (by decide) ?_
          refine AW_iload_n dX7_set_49 rfl ?_
          refine AW_iadd dX7_set_50 ?_
          refine AW_iload_n dX7_set_51 rfl ?_
          refine AW_iastN (j := 6421) dX7_set_52 rfl (Nat.le_of_ble_eq_true rfl) (by omega) (by omega) ?_
          refine AW_iload_n dX7_set_53 rfl ?_
          refine AW_iret dX7_set_54 rfl ?_
          first
          | (exfalso; omega)
          | (refine ⟨_, rfl, ?_⟩
             unfold setS
             rw [if_pos (by omega)]
             exact ⟨rfl, MS.rf.set⟩)
        · refine AW_aload_n dX7_set_31 rfl ?_
          refine AW_get dX7_set_32 fX7_7 rfl rfl ?_
          refine AW_sipush dX7_set_35 (by decide) ?_
          refine AW_iload_n dX7_set_38 rfl ?_
          refine AW_iadd dX7_set_39 ?_
          refine AW_ialdN (j := 6422) dX7_set_40 rfl (Nat.le_of_ble_eq_true rfl) (by omega) (by omega) ?_
          refine AW_istore_n (i := 3) (lv' := [_, _, _, _]) dX7_set_41 rfl (by decide) (Nat.le_of_ble_eq_true rfl) rfl ?_
          refine AW_aload_n dX7_set_42 rfl ?_
          refine AW_get dX7_set_43 fX7_7 rfl rfl ?_
          refine AW_sipush dX7_set_46 (by decide) ?_
          refine AW_iload_n dX7_set_49 rfl ?_
          refine AW_iadd dX7_set_50 ?_
          refine AW_iload_n dX7_set_51 rfl ?_
          refine AW_iastN (j := 6422) dX7_set_52 rfl (Nat.le_of_ble_eq_true rfl) (by omega) (by omega) ?_
          refine AW_iload_n dX7_set_53 rfl ?_
          refine AW_iret dX7_set_54 rfl ?_
          first
          | (exfalso; omega)
          | (refine ⟨_, rfl, ?_⟩
             unfold setS
             rw [if_neg (by omega), if_pos (by omega)]
             exact ⟨rfl, MS.rf.set⟩)
      · refine AW_if_ne 31 dX7_set_25 (by decide) (by decide) (fun h => absurd h (by decide)) (fun _ => ?_)
        refine AW_bipush dX7_set_28 (by decide) ?_
        refine AW_iret dX7_set_30 rfl ?_
        refine ⟨_, rfl, ?_⟩
        unfold setS
        rw [if_neg (by omega), if_neg (by omega)]
        exact ⟨rfl, MS.rf⟩
    · refine AW_bipush dX7_set_15 (by decide) ?_
      refine AW_goto (tgt := 22) dX7_set_17 (by decide) ?_
      refine AW_cSI3 dX7_set_22 kX7_56 (am_fit_b rfl) (Nat.le_of_ble_eq_true rfl) (c_in hn (by omega) (by omega)) (fun z σ' hq => ?_)
      obtain ⟨rfl, ⟨rfl, h22⟩ | ⟨rfl, h22⟩⟩ := hq
      · refine AW_if_ne 31 dX7_set_25 (by decide) (by decide) (fun _ => ?_) (fun h => absurd (by decide) h)
        rcases (show what = 0 ∨ what = 1 by omega) with rfl | rfl
        · refine AW_aload_n dX7_set_31 rfl ?_
          refine AW_get dX7_set_32 fX7_7 rfl rfl ?_
          refine AW_sipush dX7_set_35 (by decide) ?_
          refine AW_iload_n dX7_set_38 rfl ?_
          refine AW_iadd dX7_set_39 ?_
          refine AW_ialdN (j := 6421) dX7_set_40 rfl (Nat.le_of_ble_eq_true rfl) (by omega) (by omega) ?_
          refine AW_istore_n (i := 3) (lv' := [_, _, _, _]) dX7_set_41 rfl (by decide) (Nat.le_of_ble_eq_true rfl) rfl ?_
          refine AW_aload_n dX7_set_42 rfl ?_
          refine AW_get dX7_set_43 fX7_7 rfl rfl ?_
          refine AW_sipush dX7_set_46 (by decide) ?_
          refine AW_iload_n dX7_set_49 rfl ?_
          refine AW_iadd dX7_set_50 ?_
          refine AW_iload_n dX7_set_51 rfl ?_
          refine AW_iastN (j := 6421) dX7_set_52 rfl (Nat.le_of_ble_eq_true rfl) (by omega) (by omega) ?_
          refine AW_iload_n dX7_set_53 rfl ?_
          refine AW_iret dX7_set_54 rfl ?_
          first
          | (exfalso; omega)
          | (refine ⟨_, rfl, ?_⟩
             unfold setS
             rw [if_pos (by omega)]
             exact ⟨rfl, MS.rf.set⟩)
        · refine AW_aload_n dX7_set_31 rfl ?_
          refine AW_get dX7_set_32 fX7_7 rfl rfl ?_
          refine AW_sipush dX7_set_35 (by decide) ?_
          refine AW_iload_n dX7_set_38 rfl ?_
          refine AW_iadd dX7_set_39 ?_
          refine AW_ialdN (j := 6422) dX7_set_40 rfl (Nat.le_of_ble_eq_true rfl) (by omega) (by omega) ?_
          refine AW_istore_n (i := 3) (lv' := [_, _, _, _]) dX7_set_41 rfl (by decide) (Nat.le_of_ble_eq_true rfl) rfl ?_
          refine AW_aload_n dX7_set_42 rfl ?_
          refine AW_get dX7_set_43 fX7_7 rfl rfl ?_
          refine AW_sipush dX7_set_46 (by decide) ?_
          refine AW_iload_n dX7_set_49 rfl ?_
          refine AW_iadd dX7_set_50 ?_
          refine AW_iload_n dX7_set_51 rfl ?_
          refine AW_iastN (j := 6422) dX7_set_52 rfl (Nat.le_of_ble_eq_true rfl) (by omega) (by omega) ?_
          refine AW_iload_n dX7_set_53 rfl ?_
          refine AW_iret dX7_set_54 rfl ?_
          first
          | (exfalso; omega)
          | (refine ⟨_, rfl, ?_⟩
             unfold setS
             rw [if_neg (by omega), if_pos (by omega)]
             exact ⟨rfl, MS.rf.set⟩)
      · refine AW_if_ne 31 dX7_set_25 (by decide) (by decide) (fun h => absurd h (by decide)) (fun _ => ?_)
        refine AW_bipush dX7_set_28 (by decide) ?_
        refine AW_iret dX7_set_30 rfl ?_
        refine ⟨_, rfl, ?_⟩
        unfold setS
        rw [if_neg (by omega), if_neg (by omega)]
        exact ⟨rfl, MS.rf⟩
  · refine AW_if_eq 28 dX7_set_6 (by decide) (by decide) (fun _ => ?_) (fun h => absurd (by decide) h)
    refine AW_bipush dX7_set_28 (by decide) ?_
    refine AW_iret dX7_set_30 rfl ?_
    refine ⟨_, rfl, ?_⟩
    unfold setS
    rw [if_neg (by omega), if_neg (by omega)]
    exact ⟨rfl, MS.rf⟩
theorem am_cp_0 {σ : am_S} {a0 a sp dp : Nat} : am_cp σ a0 a sp dp 0 = σ := by
  refine Prod.ext ?_ rfl
  funext k j
  simp only [am_cp]
  rw [if_neg (by omega)]
theorem am_cp_s {σ : am_S} {a0 a sp dp n : Nat} {x : Int} (h : x = σ.1 a0 (sp + n)) : am_up (am_cp σ a0 a sp dp n) a (dp + n) x = am_cp σ a0 a sp dp (n + 1) := by
  subst h
  refine Prod.ext ?_ rfl
  funext k j
  simp only [am_up, am_cp]
  by_cases hk : k = a
  · by_cases hj : j = dp + n
    · rw [if_pos ⟨hk, hj⟩, if_pos (by omega), show sp + (j - dp) = sp + n by omega]
    · rw [if_neg (by omega)]
      by_cases h2 : dp ≤ j ∧ j < dp + n
      · rw [if_pos ⟨hk, h2⟩, if_pos (by omega)]
      · rw [if_neg (by omega), if_neg (by omega)]
  · rw [if_neg (by omega), if_neg (by omega), if_neg (by omega)]
theorem am_cp_other {σ : am_S} {a0 a b sp dp n : Nat} (h : b ≠ a) : (am_cp σ a0 a sp dp n).1 b = σ.1 b := by
  funext j
  simp [am_cp, h]
theorem l_image7 {σ : am_S} {k : Nat} (hk2 : k < 2) {Q : Option am_V → am_S → Prop} (hk : AW am_tab mX7_image 45 [some (vR 70), some (vI k), some (vI (6424 : Nat))] [] (am_cp σ 71 72 0 (6424 * k) 6424) Q) : ∀ i : Nat, i ≤ 6424 → AW am_tab mX7_image 14 [some (vR 70), some (vI k), some (vI i)] [] (am_cp σ 71 72 0 (6424 * k) i) Q :=
  up_loop (fun i hi ih => by
    refine AW_iload_n dX7_image_14 rfl ?_
    refine AW_sipush dX7_image_15 (by decide) ?_
    refine AW_icmp_ge 45 dX7_image_18 (by decide) (by omega) (by omega) (fun h18 => ?_) (fun h18 => ?_)
    · have e : i = 6424 := by omega
      subst e
      exact hk
    · refine AW_aload_n dX7_image_21 rfl ?_
      refine AW_get dX7_image_22 fX7_13 rfl rfl ?_
      refine AW_sipush dX7_image_25 (by decide) ?_
      refine AW_iload_n dX7_image_28 rfl ?_
      refine AW_imul dX7_image_29 ?_
      refine AW_iload_n dX7_image_30 rfl ?_
      refine AW_iadd dX7_image_31 ?_
      refine AW_aload_n dX7_image_32 rfl ?_
      refine AW_get dX7_image_33 fX7_7 rfl rfl ?_
      refine AW_iload_n dX7_image_36 rfl ?_
      refine AW_ialdN (j := i) dX7_image_37 rfl (Nat.le_of_ble_eq_true rfl) (by omega) (by omega) ?_
      refine AW_iastN (j := 6424 * k + i) dX7_image_38 rfl (Nat.le_of_ble_eq_true rfl) (by omega) (by omega) ?_
      refine AW_iinc (lv' := [_, _, _]) dX7_image_39 rfl (by decide) rfl ?_
      refine AW_goto (tgt := 14) dX7_image_42 (by decide) ?_
      rw [am_cp_s (by rw [am_cp_other (by decide), Nat.zero_add])]
      exact ih (by omega))
theorem c_image7 {σ : am_S} {n : Int} (hn : -2147483648 ≤ n ∧ n < 2147483648) : Runs am_tab mX7_image [vR 70, vI n] σ (QI (fun z σ' => if 0 ≤ n ∧ n ≤ 1 then z = 1 ∧ σ' = am_up (am_cp σ 71 72 0 (6424 * n.toNat) 6424) 73 n.toNat 1 else z = -2 ∧ σ' = σ)) := by
  refine Runs.of (by decide) rfl (by simp) (Nat.le_of_ble_eq_true rfl) ?_
  show AW am_tab mX7_image 0 [some (vR 70), some (vI n), none] [] σ _
  refine AW_iload_n dX7_image_0 rfl ?_
  refine AW_iconst dX7_image_1 ?_
  refine AW_iconst dX7_image_2 ?_
  refine AW_cSI3 dX7_image_3 kX7_56 (am_fit_b rfl) (Nat.le_of_ble_eq_true rfl) (c_in hn (by omega) (by omega)) (fun z σ' hq => ?_)
  obtain ⟨rfl, ⟨rfl, h3⟩ | ⟨rfl, h3⟩⟩ := hq
  · refine AW_if_ne 12 dX7_image_6 (by decide) (by decide) (fun _ => ?_) (fun h => absurd (by decide) h)
    refine AW_iconst dX7_image_12 ?_
    refine AW_istore_n (i := 2) (lv' := [_, _, _]) dX7_image_13 rfl (by decide) (Nat.le_of_ble_eq_true rfl) rfl ?_
    obtain ⟨k, rfl⟩ : ∃ k : Nat, n = k := ⟨n.toNat, by omega⟩
    suffices hs : AW am_tab mX7_image 45 [some (vR 70), some (vI k), some (vI (6424 : Nat))] [] (am_cp σ 71 72 0 (6424 * k) 6424) _ by
      have h9 := l_image7 (by omega) hs 0 (by omega)
      rw [am_cp_0] at h9
      exact h9
    refine AW_aload_n dX7_image_45 rfl ?_
    refine AW_get dX7_image_46 fX7_16 rfl rfl ?_
    refine AW_iload_n dX7_image_49 rfl ?_
    refine AW_iconst dX7_image_50 ?_
    refine AW_zastN (j := k) dX7_image_51 rfl (Nat.le_of_ble_eq_true rfl) (by omega) (by omega) (by first | exact Or.inl rfl | exact Or.inr rfl) ?_
    refine AW_iconst dX7_image_52 ?_
    refine AW_iret dX7_image_53 rfl ?_
    exact ⟨_, rfl, by dsimp only; rw [if_pos (by omega), Int.toNat_natCast]; exact ⟨rfl, rfl⟩⟩
  · refine AW_if_ne 12 dX7_image_6 (by decide) (by decide) (fun h => absurd h (by decide)) (fun _ => ?_)
    refine AW_bipush dX7_image_9 (by decide) ?_
    refine AW_iret dX7_image_11 rfl ?_
    exact ⟨_, rfl, by dsimp only; rw [if_neg (by omega)]; exact ⟨rfl, rfl⟩⟩
theorem l_restore7 {σ : am_S} {k : Nat} (hk2 : k < 2) {Q : Option am_V → am_S → Prop} (hk : AW am_tab mX7_restore 57 [some (vR 70), some (vI k), some (vI (6424 : Nat))] [] (am_cp σ 72 71 (6424 * k) 0 6424) Q) : ∀ i : Nat, i ≤ 6424 → AW am_tab mX7_restore 26 [some (vR 70), some (vI k), some (vI i)] [] (am_cp σ 72 71 (6424 * k) 0 i) Q :=
  up_loop (fun i hi ih => by
    refine AW_iload_n dX7_restore_26 rfl ?_
    refine AW_sipush dX7_restore_27 (by decide) ?_
    refine AW_icmp_ge 57 dX7_restore_30 (by decide) (by omega) (by omega) (fun h30 => ?_) (fun h30 => ?_)
    · have e : i = 6424 := by omega
      subst e
      exact hk
    · refine AW_aload_n dX7_restore_33 rfl ?_
      refine AW_get dX7_restore_34 fX7_7 rfl rfl ?_
      refine AW_iload_n dX7_restore_37 rfl ?_
      refine AW_aload_n dX7_restore_38 rfl ?_
      refine AW_get dX7_restore_39 fX7_13 rfl rfl ?_
      refine AW_sipush dX7_restore_42 (by decide) ?_
      refine AW_iload_n dX7_restore_45 rfl ?_
      refine AW_imul dX7_restore_46 ?_
      refine AW_iload_n dX7_restore_47 rfl ?_
      refine AW_iadd dX7_restore_48 ?_
      refine AW_ialdN (j := 6424 * k + i) dX7_restore_49 rfl (Nat.le_of_ble_eq_true rfl) (by omega) (by omega) ?_
      refine AW_iastN (j := i) dX7_restore_50 rfl (Nat.le_of_ble_eq_true rfl) (by omega) (by omega) ?_
      refine AW_iinc (lv' := [_, _, _]) dX7_restore_51 rfl (by decide) rfl ?_
      refine AW_goto (tgt := 26) dX7_restore_54 (by decide) ?_
      have e := am_cp_s (σ := σ) (a0 := 72) (a := 71) (sp := 6424 * k) (dp := 0) (n := i) rfl
      rw [Nat.zero_add] at e
      rw [am_cp_other (by decide), e]
      exact ih (by omega))
theorem c_restore7 {σ : am_S} (hK : ∀ k, k < 2 → 0 ≤ σ.1 73 k ∧ σ.1 73 k ≤ 1) {n : Int} (hn : -2147483648 ≤ n ∧ n < 2147483648) : Runs am_tab mX7_restore [vR 70, vI n] σ (QI (fun z σ' => if 0 ≤ n ∧ n ≤ 1 then (if σ.1 73 n.toNat = 0 then z = -3 ∧ σ' = σ else z = 1 ∧ σ' = am_cp σ 72 71 (6424 * n.toNat) 0 6424) else z = -2 ∧ σ' = σ)) := by
  refine Runs.of (by decide) rfl (by simp) (Nat.le_of_ble_eq_true rfl) ?_
  show AW am_tab mX7_restore 0 [some (vR 70), some (vI n), none] [] σ _
  refine AW_iload_n dX7_restore_0 rfl ?_
  refine AW_iconst dX7_restore_1 ?_
  refine AW_iconst dX7_restore_2 ?_
  refine AW_cSI3 dX7_restore_3 kX7_56 (am_fit_b rfl) (Nat.le_of_ble_eq_true rfl) (c_in hn (by omega) (by omega)) (fun z σ' hq => ?_)
  obtain ⟨rfl, ⟨rfl, h3⟩ | ⟨rfl, h3⟩⟩ := hq
  · refine AW_if_ne 12 dX7_restore_6 (by decide) (by decide) (fun _ => ?_) (fun h => absurd (by decide) h)
    obtain ⟨k, rfl⟩ : ∃ k : Nat, n = k := ⟨n.toNat, by omega⟩
    refine AW_aload_n dX7_restore_12 rfl ?_
    refine AW_get dX7_restore_13 fX7_16 rfl rfl ?_
    refine AW_iload_n dX7_restore_16 rfl ?_
    refine AW_zaldN (j := k) dX7_restore_17 rfl (Nat.le_of_ble_eq_true rfl) (by omega) (by omega) ?_
    have hKk := hK k (by omega)
    refine AW_if_ne 24 dX7_restore_18 (by decide) (by omega) (fun h18 => ?_) (fun h18 => ?_)
    · refine AW_iconst dX7_restore_24 ?_
      refine AW_istore_n (i := 2) (lv' := [_, _, _]) dX7_restore_25 rfl (by decide) (Nat.le_of_ble_eq_true rfl) rfl ?_
      suffices hs : AW am_tab mX7_restore 57 [some (vR 70), some (vI k), some (vI (6424 : Nat))] [] (am_cp σ 72 71 (6424 * k) 0 6424) _ by
        have h9 := l_restore7 (by omega) hs 0 (by omega)
        rw [am_cp_0] at h9
        exact h9
      refine AW_iconst dX7_restore_57 ?_
      refine AW_iret dX7_restore_58 rfl ?_
      exact ⟨_, rfl, by dsimp only; rw [if_pos (by omega), Int.toNat_natCast, if_neg (by omega)]; exact ⟨rfl, rfl⟩⟩
    · refine AW_bipush dX7_restore_21 (by decide) ?_
      refine AW_iret dX7_restore_23 rfl ?_
      exact ⟨_, rfl, by dsimp only; rw [if_pos (by omega), Int.toNat_natCast, if_pos (by omega)]; exact ⟨rfl, rfl⟩⟩
  · refine AW_if_ne 12 dX7_restore_6 (by decide) (by decide) (fun h => absurd h (by decide)) (fun _ => ?_)
    refine AW_bipush dX7_restore_9 (by decide) ?_
    refine AW_iret dX7_restore_11 rfl ?_
    exact ⟨_, rfl, by dsimp only; rw [if_neg (by omega)]; exact ⟨rfl, rfl⟩⟩
