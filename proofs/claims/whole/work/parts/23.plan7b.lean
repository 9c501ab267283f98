/-- THING k is in each PLAN that takes as many -/
def needX (X : Row) (n k : Nat) : Prop := ∃ m m', numX X (-6) n m ∧ IsMax (gA X (-6)) (fun j => j < n ∧ j ≠ k) f0 n m' ∧ m' < m
noncomputable def needB (X : Row) (n k : Nat) : Bool := @decide (needX X n k) (Classical.propDecidable _)
theorem needB_t {X : Row} {n k : Nat} : needB X n k = true ↔ needX X n k := by
  unfold needB
  exact @decide_eq_true_iff (needX X n k) (Classical.propDecidable _)
theorem l_inEach7 {X : Row} {n m : Nat} {σ0 : am_S} (hm : numX X (-6) n m) {Q : Option am_V → am_S → Prop} (hQ : ∀ σ, Eqx [74, 75, 76, 77, 78, 79, 80, 81] σ0 σ → Q (some (vI (bset (needB X n) n : Nat))) σ) : ∀ k : Nat, k ≤ n → ∀ σ : am_S, Eqx [74, 75, 76, 77, 78, 79, 80, 81] σ0 σ → Gok X (-6) n σ → (∀ j, j < 20 → σ.1 78 j = 0) → (∀ c, c < 1204 → σ.1 77 c = 0) → AW am_tab mX7_inEach 11 [some (vR 70), some (vI (m : Nat)), some (vI (bset (needB X n) k : Nat)), some (vI (k : Nat))] [] σ Q :=
  up_loop (fun k hk0 ih σ hE hGo h78 h77 => by
    have hn := hGo.2.2.2.2
    have hbs := bset_small (needB X n) (k := k) (by omega)
    have hmb : m ≤ 20 := by
      obtain ⟨⟨g, _, hg⟩, _⟩ := hm
      rw [← hg, sz_cnt]
      exact Nat.le_trans (cnt_le _ _) hn
    refine AW_iload_n dX7_inEach_11 rfl ?_
    refine AW_aload_n dX7_inEach_12 rfl ?_
    refine AW_get dX7_inEach_13 fX7_7 rfl rfl ?_
    refine AW_sipush dX7_inEach_16 (by decide) ?_
    refine AW_ialdN (j := 6423) dX7_inEach_19 rfl (Nat.le_of_ble_eq_true rfl) (by omega) (by omega) ?_
    rw [hGo.2.2.2.1]
    refine AW_icmp_ge 62 dX7_inEach_20 (by decide) (by omega) (by omega) (fun h20 => ?_) (fun h20 => ?_)
    · have e : k = n := by omega
      subst e
      refine AW_iload_n dX7_inEach_62 rfl ?_
      refine AW_iret dX7_inEach_63 rfl ?_
      exact hQ σ hE
    · refine AW_aload_n dX7_inEach_23 rfl ?_
      refine AW_get dX7_inEach_24 fX7_32 rfl rfl ?_
      refine AW_iload_n dX7_inEach_27 rfl ?_
      refine AW_iconst dX7_inEach_28 ?_
      refine AW_zastN (j := k) dX7_inEach_29 rfl (Nat.le_of_ble_eq_true rfl) (by omega) (by omega) (by first | exact Or.inl rfl | exact Or.inr rfl) ?_
      have hO1 : (am_up σ 78 k 1).1 78 = rup (σ.1 78) k 1 := am_up_same
      have hGo1 : Gok X (-6) n (am_up σ 78 k 1) := by
        refine ⟨by rw [am_up_other (by decide)]; exact hGo.1, fun j hj => ?_, by rw [am_up_other (by decide)]; exact hGo.2.2.1, by rw [am_up_other (by decide)]; exact hGo.2.2.2.1, hn⟩
        rw [hO1]
        simp only [rup]
        split
        · decide
        · exact hGo.2.1 j hj
      have hPk : ∀ j, bx_P ((am_up σ 78 k 1).1 78) 0 n j ↔ (j < n ∧ j ≠ k) := fun j => by
        unfold bx_P
        rw [hO1]
        simp only [rup]
        by_cases e : j = k
        · rw [if_pos e]
          exact ⟨fun h => absurd h.2.2 (by decide), fun h => absurd e h.2⟩
        · rw [if_neg e]
          exact ⟨fun h => ⟨h.2.1, e⟩, fun h => ⟨by omega, h.1, h78 j (by omega)⟩⟩
      have hF1 : ∀ s, okS s → (bx_Fd ((am_up σ 78 k 1).1 77) s ↔ f0 s) := fun s hs => by
        unfold bx_Fd
        rw [am_up_other (by decide)]
        exact ⟨fun h => h (h77 _ (enc_lt hs)), fun h => h.elim⟩
      refine AW_iload_n dX7_inEach_30 rfl ?_
      refine AW_aload_n dX7_inEach_31 rfl ?_
      refine AW_iconst dX7_inEach_32 ?_
      refine AW_cVI1 dX7_inEach_33 kX7_112 (am_fit_b rfl) rfl rfl (Nat.le_of_ble_eq_true rfl) (c_most7 (σ0 := am_up σ 78 k 1) (n := n) (fr := 0) hn hGo1.hG hGo1.2.2.1 hGo1.2.1 hGo1.2.2.2.1 (by omega)) (fun z σ' hq => ?_)
      obtain ⟨mk, rfl, h1, h2⟩ := hq
      have hmk := hGo1.most h2 hPk hF1
      have hmkb : mk ≤ 20 := by
        obtain ⟨⟨g, _, hg⟩, _⟩ := hmk
        rw [← hg, sz_cnt]
        exact Nat.le_trans (cnt_le _ _) hn
      have hneed : needX X n k ↔ mk < m := ⟨fun ⟨a, b, x1, x2, x3⟩ => by
        have u1 := x1.uniq hm
        have u2 := x2.uniq hmk
        omega, fun h => ⟨m, mk, hm, hmk, h⟩⟩
      refine AW_iload_n dX7_inEach_36 rfl ?_
      refine AW_icmp_ge 46 dX7_inEach_37 (by decide) (by omega) (by omega) (fun h37 => ?_) (fun h37 => ?_)
      · refine AW_iconst dX7_inEach_46 ?_
        first
        | refine AW_ior (z := ((bset (needB X n) k + 2 ^ k : Nat) : Int)) dX7_inEach_47 (i32_or_pow (bset_lt _ _) (by omega)) ?_
        | refine AW_ior (z := ((bset (needB X n) k : Nat) : Int)) dX7_inEach_47 i32_or_0 ?_
        refine AW_istore_n (i := 2) (lv' := [_, _, _, _]) dX7_inEach_48 rfl (by decide) (Nat.le_of_ble_eq_true rfl) rfl ?_
        refine AW_aload_n dX7_inEach_49 rfl ?_
        refine AW_get dX7_inEach_50 fX7_32 rfl rfl ?_
        refine AW_iload_n dX7_inEach_53 rfl ?_
        refine AW_iconst dX7_inEach_54 ?_
        refine AW_zastN (j := k) dX7_inEach_55 rfl (Nat.le_of_ble_eq_true rfl) (by omega) (by omega) (by first | exact Or.inl rfl | exact Or.inr rfl) ?_
        refine AW_iinc (lv' := [_, _, _, _]) dX7_inEach_56 rfl (by decide) rfl ?_
        refine AW_goto (tgt := 11) dX7_inEach_59 (by decide) ?_
        have hGo3 : Gok X (-6) n (am_up σ' 78 k 0) := by
          have g := hGo1.kept h1
          refine ⟨by rw [am_up_other (by decide)]; exact g.1, fun j hj => ?_, by rw [am_up_other (by decide)]; exact g.2.2.1, by rw [am_up_other (by decide)]; exact g.2.2.2.1, hn⟩
          rw [am_up_same]
          simp only [rup]
          split
          · decide
          · exact g.2.1 j hj
        have h783 : ∀ j, j < 20 → (am_up σ' 78 k 0).1 78 j = 0 := fun j hj => by
          rw [am_up_same, h1.1 78 (by decide), hO1]
          simp only [rup]
          by_cases e : j = k
          · rw [if_pos e]
          · rw [if_neg e, if_neg e]; exact h78 j hj
        have h773 : ∀ c, c < 1204 → (am_up σ' 78 k 0).1 77 c = 0 := by
          rw [am_up_other (by decide), h1.1 77 (by decide), am_up_other (by decide)]
          exact h77
        have hE3 : Eqx [74, 75, 76, 77, 78, 79, 80, 81] σ0 (am_up σ' 78 k 0) := ((hE.up (by decide)).tr (h1.mono (by decide))).up (by decide)
        have e2 : bset (needB X n) (k + 1) = bset (needB X n) k + (if needB X n k = true then 2 ^ k else 0) := rfl
        first
        | rw [if_pos (needB_t.mpr (hneed.mpr (by omega)))] at e2
        | (rw [if_neg (fun h => by have := hneed.mp (needB_t.mp h); omega)] at e2; rw [Nat.add_zero] at e2)
        have h9 := ih (by omega) _ hE3 hGo3 h783 h773
        rw [e2] at h9
        exact h9
      · refine AW_iconst dX7_inEach_40 ?_
        refine AW_iload_n dX7_inEach_41 rfl ?_
        refine AW_ishl (z := ((2 ^ k : Nat) : Int)) dX7_inEach_42 (i32_shl1 ⟨k, by omega⟩) ?_
        refine AW_goto (tgt := 47) dX7_inEach_43 (by decide) ?_
        first
        | refine AW_ior (z := ((bset (needB X n) k + 2 ^ k : Nat) : Int)) dX7_inEach_47 (i32_or_pow (bset_lt _ _) (by omega)) ?_
        | refine AW_ior (z := ((bset (needB X n) k : Nat) : Int)) dX7_inEach_47 i32_or_0 ?_
        refine AW_istore_n (i := 2) (lv' := [_, _, _, _]) dX7_inEach_48 rfl (by decide) (Nat.le_of_ble_eq_true rfl) rfl ?_
        refine AW_aload_n dX7_inEach_49 rfl ?_
        refine AW_get dX7_inEach_50 fX7_32 rfl rfl ?_
        refine AW_iload_n dX7_inEach_53 rfl ?_
        refine AW_iconst dX7_inEach_54 ?_
        refine AW_zastN (j := k) dX7_inEach_55 rfl (Nat.le_of_ble_eq_true rfl) (by omega) (by omega) (by first | exact Or.inl rfl | exact Or.inr rfl) ?_
        refine AW_iinc (lv' := [_, _, _, _]) dX7_inEach_56 rfl (by decide) rfl ?_
        refine AW_goto (tgt := 11) dX7_inEach_59 (by decide) ?_
        have hGo3 : Gok X (-6) n (am_up σ' 78 k 0) := by
          have g := hGo1.kept h1
          refine ⟨by rw [am_up_other (by decide)]; exact g.1, fun j hj => ?_, by rw [am_up_other (by decide)]; exact g.2.2.1, by rw [am_up_other (by decide)]; exact g.2.2.2.1, hn⟩
          rw [am_up_same]
          simp only [rup]
          split
          · decide
          · exact g.2.1 j hj
        have h783 : ∀ j, j < 20 → (am_up σ' 78 k 0).1 78 j = 0 := fun j hj => by
          rw [am_up_same, h1.1 78 (by decide), hO1]
          simp only [rup]
          by_cases e : j = k
          · rw [if_pos e]
          · rw [if_neg e, if_neg e]; exact h78 j hj
        have h773 : ∀ c, c < 1204 → (am_up σ' 78 k 0).1 77 c = 0 := by
          rw [am_up_other (by decide), h1.1 77 (by decide), am_up_other (by decide)]
          exact h77
        have hE3 : Eqx [74, 75, 76, 77, 78, 79, 80, 81] σ0 (am_up σ' 78 k 0) := ((hE.up (by decide)).tr (h1.mono (by decide))).up (by decide)
        have e2 : bset (needB X n) (k + 1) = bset (needB X n) k + (if needB X n k = true then 2 ^ k else 0) := rfl
        first
        | rw [if_pos (needB_t.mpr (hneed.mpr (by omega)))] at e2
        | (rw [if_neg (fun h => by have := hneed.mp (needB_t.mp h); omega)] at e2; rw [Nat.add_zero] at e2)
        have h9 := ih (by omega) _ hE3 hGo3 h783 h773
        rw [e2] at h9
        exact h9)
theorem c_inEach7 {σ : am_S} (hS : WS (σ.1 71)) (hT : WT (σ.1 71)) (hA : WA (σ.1 71)) {n : Nat} (hmany : σ.1 71 6423 = (n : Nat)) : Runs am_tab mX7_inEach [vR 70] σ (QI (fun z σ' => z = (bset (needB (σ.1 71) n) n : Nat) ∧ Eqx [74, 75, 76, 77, 78, 79, 80, 81] σ σ')) := by
  refine Runs.of (by decide) rfl (by simp) (Nat.le_of_ble_eq_true rfl) ?_
  show AW am_tab mX7_inEach 0 [some (vR 70), none, none, none] [] σ _
  refine AW_aload_n dX7_inEach_0 rfl ?_
  refine AW_bipush dX7_inEach_1 (by decide) ?_
  refine AW_cVI1 dX7_inEach_3 kX7_137 (am_fit_b rfl) rfl rfl (Nat.le_of_ble_eq_true rfl) (c_mostWithout7 hS hT hA hmany (by omega)) (fun z σ' hq => ?_)
  obtain ⟨m, rfl, h1, h2, h3, h4, h5⟩ := hq
  refine AW_istore_n (i := 1) (lv' := [_, _, _, _]) dX7_inEach_6 rfl (by decide) (Nat.le_of_ble_eq_true rfl) rfl ?_
  refine AW_iconst dX7_inEach_7 ?_
  refine AW_istore_n (i := 2) (lv' := [_, _, _, _]) dX7_inEach_8 rfl (by decide) (Nat.le_of_ble_eq_true rfl) rfl ?_
  refine AW_iconst dX7_inEach_9 ?_
  refine AW_istore_n (i := 3) (lv' := [_, _, _, _]) dX7_inEach_10 rfl (by decide) (Nat.le_of_ble_eq_true rfl) rfl ?_
  exact l_inEach7 h1 (fun σ2 h => ⟨_, rfl, rfl, h2.tr h⟩) 0 (by omega) _ Eqx.rf h3 h4 h5
theorem c_plan7 {σ : am_S} (hS : WS (σ.1 71)) (hT : WT (σ.1 71)) (hA : WA (σ.1 71)) {n : Nat} (hmany : σ.1 71 6423 = (n : Nat)) {what : Int} (hwhat : -2147483648 ≤ what ∧ what < 2147483648) : Runs am_tab mX7_plan [vR 70, vI what] σ (QI (fun z σ' => if 0 ≤ what ∧ what ≤ 4 then Eqx [70, 74, 75, 76, 77, 78, 79, 80, 81, 82, 83] σ σ' ∧ (if what = 4 then z = (bset (needB (σ.1 71) n) n : Nat) else ∃ pl, PlanSpec (gA (σ.1 71) (-6)) n pl ∧ ∃ m : Nat, numX (σ.1 71) (-6) n m ∧ z = (if what = 0 then (m : Int) else if what = 1 then (n : Int) - m else if what = 2 then lastN pl n else (bset (missB pl) n : Nat))) else z = -2 ∧ σ' = σ)) := by
  refine Runs.of (by decide) rfl (by simp) (Nat.le_of_ble_eq_true rfl) ?_
  show AW am_tab mX7_plan 0 [some (vR 70), some (vI what), none, none, none] [] σ _
  refine AW_iload_n dX7_plan_0 rfl ?_
  refine AW_iconst dX7_plan_1 ?_
  refine AW_iconst dX7_plan_2 ?_
  refine AW_cSI3 dX7_plan_3 kX7_56 (am_fit_b rfl) (Nat.le_of_ble_eq_true rfl) (c_in hwhat (by omega) (by omega)) (fun z σ' hq => ?_)
  obtain ⟨rfl, ⟨rfl, h3⟩ | ⟨rfl, h3⟩⟩ := hq
  · refine AW_if_ne 12 dX7_plan_6 (by decide) (by decide) (fun _ => ?_) (fun h => absurd (by decide) h)
    refine AW_iload_n dX7_plan_12 rfl ?_
    refine AW_iconst dX7_plan_13 ?_
    refine AW_icmp_ne 22 dX7_plan_14 (by decide) (by omega) (by omega) (fun h14 => ?_) (fun h14 => ?_)
    · refine AW_aload_n dX7_plan_22 rfl ?_
      refine AW_cVV0 dX7_plan_23 kX7_119 (am_fit_b rfl) rfl rfl (Nat.le_of_ble_eq_true rfl) (c_layPlan7 hS hT hA hmany) (fun σ' hq => ?_)
      obtain ⟨hE, pl, hPl⟩ := hq
      have hm2 : σ'.1 71 6423 = (n : Nat) := by rw [hE.1 71 (by decide)]; exact hmany
      have hn : n ≤ 20 := by have := hT.1; omega
      refine AW_bipush dX7_plan_26 (by decide) ?_
      refine AW_istore_n (i := 2) (lv' := [_, _, _, _, _]) dX7_plan_28 rfl (by decide) (Nat.le_of_ble_eq_true rfl) rfl ?_
      refine AW_iconst dX7_plan_29 ?_
      refine AW_istore_n (i := 3) (lv' := [_, _, _, _, _]) dX7_plan_30 rfl (by decide) (Nat.le_of_ble_eq_true rfl) rfl ?_
      refine AW_iconst dX7_plan_31 ?_
      refine AW_istore (lv' := [_, _, _, _, _]) dX7_plan_32 (by decide) (Nat.le_of_ble_eq_true rfl) rfl ?_
      refine l_plan7 hPl.1 hPl.2.1 hm2 hn ?_ 0 (by omega) ⟨by simp [lastN], by simp [lastN]⟩
      obtain ⟨m, hm13, hmx⟩ := hPl.2.2
      refine AW_iload_n dX7_plan_97 rfl ?_
      refine AW_if_ne 108 dX7_plan_98 (by decide) (by omega) (fun h98 => ?_) (fun h98 => ?_)
      · refine AW_iload_n dX7_plan_108 rfl ?_
        refine AW_iconst dX7_plan_109 ?_
        refine AW_icmp_ne 129 dX7_plan_110 (by decide) (by omega) (by omega) (fun h110 => ?_) (fun h110 => ?_)
        · refine AW_iload_n dX7_plan_129 rfl ?_
          refine AW_iconst dX7_plan_130 ?_
          refine AW_icmp_ne 138 dX7_plan_131 (by decide) (by omega) (by omega) (fun h131 => ?_) (fun h131 => ?_)
          · refine AW_iload_n dX7_plan_138 rfl ?_
            refine AW_iret dX7_plan_139 rfl ?_
            refine ⟨_, rfl, ?_⟩
            dsimp only
            rw [if_pos (by omega)]
            refine ⟨hE, ?_⟩
            rw [if_neg (by omega)]
            refine ⟨pl, hPl.1, m, hmx, ?_⟩
            first
            | (rw [if_pos (by omega)]; exact hm13)
            | (rw [if_neg (by omega), if_pos (by omega), hm13, hm2])
            | (rw [if_neg (by omega), if_neg (by omega), if_pos (by omega)])
            | (rw [if_neg (by omega), if_neg (by omega), if_neg (by omega)])
          · refine AW_iload_n dX7_plan_134 rfl ?_
            refine AW_goto (tgt := 139) dX7_plan_135 (by decide) ?_
            refine AW_iret dX7_plan_139 rfl ?_
            refine ⟨_, rfl, ?_⟩
            dsimp only
            rw [if_pos (by omega)]
            refine ⟨hE, ?_⟩
            rw [if_neg (by omega)]
            refine ⟨pl, hPl.1, m, hmx, ?_⟩
            first
            | (rw [if_pos (by omega)]; exact hm13)
            | (rw [if_neg (by omega), if_pos (by omega), hm13, hm2])
            | (rw [if_neg (by omega), if_neg (by omega), if_pos (by omega)])
            | (rw [if_neg (by omega), if_neg (by omega), if_neg (by omega)])
        · refine AW_aload_n dX7_plan_113 rfl ?_
          refine AW_get dX7_plan_114 fX7_7 rfl rfl ?_
          refine AW_sipush dX7_plan_117 (by decide) ?_
          refine AW_ialdN (j := 6423) dX7_plan_120 rfl (Nat.le_of_ble_eq_true rfl) (by omega) (by omega) ?_
          refine AW_aload_n dX7_plan_121 rfl ?_
          refine AW_get dX7_plan_122 fX7_115 rfl rfl ?_
          refine AW_isub dX7_plan_125 ?_
          refine AW_goto (tgt := 139) dX7_plan_126 (by decide) ?_
          refine AW_iret dX7_plan_139 rfl ?_
          refine ⟨_, rfl, ?_⟩
          dsimp only
          rw [if_pos (by omega)]
          refine ⟨hE, ?_⟩
          rw [if_neg (by omega)]
          refine ⟨pl, hPl.1, m, hmx, ?_⟩
          first
          | (rw [if_pos (by omega)]; exact hm13)
          | (rw [if_neg (by omega), if_pos (by omega), hm13, hm2])
          | (rw [if_neg (by omega), if_neg (by omega), if_pos (by omega)])
          | (rw [if_neg (by omega), if_neg (by omega), if_neg (by omega)])
      · refine AW_aload_n dX7_plan_101 rfl ?_
        refine AW_get dX7_plan_102 fX7_115 rfl rfl ?_
        refine AW_goto (tgt := 139) dX7_plan_105 (by decide) ?_
        refine AW_iret dX7_plan_139 rfl ?_
        refine ⟨_, rfl, ?_⟩
        dsimp only
        rw [if_pos (by omega)]
        refine ⟨hE, ?_⟩
        rw [if_neg (by omega)]
        refine ⟨pl, hPl.1, m, hmx, ?_⟩
        first
        | (rw [if_pos (by omega)]; exact hm13)
        | (rw [if_neg (by omega), if_pos (by omega), hm13, hm2])
        | (rw [if_neg (by omega), if_neg (by omega), if_pos (by omega)])
        | (rw [if_neg (by omega), if_neg (by omega), if_neg (by omega)])
    · refine AW_aload_n dX7_plan_17 rfl ?_
      refine AW_cVI0 dX7_plan_18 kX7_140 (am_fit_b rfl) rfl rfl (Nat.le_of_ble_eq_true rfl) (c_inEach7 hS hT hA hmany) (fun z σ' hq => ?_)
      obtain ⟨hz, hs⟩ := hq
      replace hz := hz.symm
      subst hz
      refine AW_iret dX7_plan_21 rfl ?_
      refine ⟨_, rfl, ?_⟩
      dsimp only
      rw [if_pos (by omega)]
      exact ⟨hs.mono (by decide), by rw [if_pos (by omega)]⟩
  · refine AW_if_ne 12 dX7_plan_6 (by decide) (by decide) (fun h => absurd h (by decide)) (fun _ => ?_)
    refine AW_bipush dX7_plan_9 (by decide) ?_
    refine AW_iret dX7_plan_11 rfl ?_
    refine ⟨_, rfl, ?_⟩
    dsimp only
    rw [if_neg (by omega)]
    exact ⟨rfl, rfl⟩
theorem c_arm7 {σ : am_S} (hS : WS (σ.1 71)) (hT : WT (σ.1 71)) (hA : WA (σ.1 71)) {n : Nat} (hmany : σ.1 71 6423 = (n : Nat)) {arm what : Int} (harm : -2147483648 ≤ arm ∧ arm < 2147483648) (hwhat : -2147483648 ≤ what ∧ what < 2147483648) : Runs am_tab mX7_arm [vR 70, vI arm, vI what] σ (QI (fun z σ' => if 0 ≤ arm ∧ arm ≤ 3 then (if 0 ≤ what ∧ what ≤ 6 then Eqx [70, 74, 75, 76, 77, 78, 79, 80, 81, 82, 83] σ σ' ∧ (if what < 5 then z = σ.1 71 (6401 + 4 * what.toNat + arm.toNat) else if what = 5 then ∃ pl, PlanSpec (gA (σ.1 71) (-6)) n pl ∧ z = byN pl arm n else ∃ m m' : Nat, numX (σ.1 71) (-6) n m ∧ numX (σ.1 71) arm n m' ∧ z = (m : Int) - m') else z = -2 ∧ σ' = σ) else z = -1 ∧ σ' = σ)) := by
  refine Runs.of (by decide) rfl (by simp) (Nat.le_of_ble_eq_true rfl) ?_
  show AW am_tab mX7_arm 0 [some (vR 70), some (vI arm), some (vI what)] [] σ _
  refine AW_iload_n dX7_arm_0 rfl ?_
  refine AW_cSI1 dX7_arm_1 kX7_89 (am_fit_b rfl) (Nat.le_of_ble_eq_true rfl) (c_isArm7 harm) (fun z σ' hq => ?_)
  obtain ⟨rfl, ⟨rfl, h1⟩ | ⟨rfl, h1⟩⟩ := hq
  · refine AW_if_ne 9 dX7_arm_4 (by decide) (by decide) (fun _ => ?_) (fun h => absurd (by decide) h)
    refine AW_iload_n dX7_arm_9 rfl ?_
    refine AW_iconst dX7_arm_10 ?_
    refine AW_bipush dX7_arm_11 (by decide) ?_
    refine AW_cSI3 dX7_arm_13 kX7_56 (am_fit_b rfl) (Nat.le_of_ble_eq_true rfl) (c_in hwhat (by omega) (by omega)) (fun z σ' hq => ?_)
    obtain ⟨rfl, ⟨rfl, h13⟩ | ⟨rfl, h13⟩⟩ := hq
    · refine AW_if_ne 22 dX7_arm_16 (by decide) (by decide) (fun _ => ?_) (fun h => absurd (by decide) h)
      refine AW_iload_n dX7_arm_22 rfl ?_
      refine AW_iconst dX7_arm_23 ?_
      refine AW_icmp_ge 44 dX7_arm_24 (by decide) (by omega) (by omega) (fun h24 => ?_) (fun h24 => ?_)
      · refine AW_iload_n dX7_arm_44 rfl ?_
        refine AW_iconst dX7_arm_45 ?_
        refine AW_icmp_ne 57 dX7_arm_46 (by decide) (by omega) (by omega) (fun h46 => ?_) (fun h46 => ?_)
        · refine AW_aload_n dX7_arm_57 rfl ?_
          refine AW_bipush dX7_arm_58 (by decide) ?_
          refine AW_cVI1 dX7_arm_60 kX7_137 (am_fit_b rfl) rfl rfl (Nat.le_of_ble_eq_true rfl) (c_mostWithout7 hS hT hA hmany (by omega)) (fun z σ' hq => ?_)
          obtain ⟨m, rfl, h1, h2, _⟩ := hq
          have r71 : σ'.1 71 = σ.1 71 := h2.1 71 (by decide)
          refine AW_aload_n dX7_arm_63 rfl ?_
          refine AW_iload_n dX7_arm_64 rfl ?_
          refine AW_cVI1 dX7_arm_65 kX7_137 (am_fit_b rfl) rfl rfl (Nat.le_of_ble_eq_true rfl) (c_mostWithout7 (σ := σ') (n := n) (by rw [r71]; exact hS) (by rw [r71]; exact hT) (by rw [r71]; exact hA) (by rw [r71]; exact hmany) harm) (fun z σ' hq2 => ?_)
          obtain ⟨m', rfl, h3, h4, _⟩ := hq2
          rw [r71] at h3
          refine AW_isub dX7_arm_68 ?_
          refine AW_iret dX7_arm_69 rfl ?_
          refine ⟨_, rfl, ?_⟩
          dsimp only
          rw [if_pos (by omega), if_pos (by omega)]
          refine ⟨(h2.mono (by decide)).tr (h4.mono (by decide)), ?_⟩
          rw [if_neg (by omega), if_neg (by omega)]
          exact ⟨m, m', h1, h3, rfl⟩
        · refine AW_aload_n dX7_arm_49 rfl ?_
          refine AW_iload_n dX7_arm_50 rfl ?_
          refine AW_cVI1 dX7_arm_51 kX7_134 (am_fit_b rfl) rfl rfl (Nat.le_of_ble_eq_true rfl) (c_takenBy7 hS hT hA hmany harm) (fun z σ' hq => ?_)
          obtain ⟨hE, pl, hPl, rfl⟩ := hq
          refine AW_goto (tgt := 69) dX7_arm_54 (by decide) ?_
          refine AW_iret dX7_arm_69 rfl ?_
          refine ⟨_, rfl, ?_⟩
          dsimp only
          rw [if_pos (by omega), if_pos (by omega)]
          refine ⟨hE, ?_⟩
          rw [if_neg (by omega), if_pos (by omega)]
          exact ⟨pl, hPl.1, rfl⟩
      · refine AW_aload_n dX7_arm_27 rfl ?_
        refine AW_get dX7_arm_28 fX7_7 rfl rfl ?_
        refine AW_sipush dX7_arm_31 (by decide) ?_
        refine AW_iconst dX7_arm_34 ?_
        refine AW_iload_n dX7_arm_35 rfl ?_
        refine AW_imul dX7_arm_36 ?_
        refine AW_iadd dX7_arm_37 ?_
        refine AW_iload_n dX7_arm_38 rfl ?_
        refine AW_iadd dX7_arm_39 ?_
        refine AW_ialdN (j := 6401 + 4 * what.toNat + arm.toNat) dX7_arm_40 rfl (Nat.le_of_ble_eq_true rfl) (by omega) (by omega) ?_
        refine AW_goto (tgt := 69) dX7_arm_41 (by decide) ?_
        refine AW_iret dX7_arm_69 rfl ?_
        refine ⟨_, rfl, ?_⟩
        dsimp only
        rw [if_pos (by omega), if_pos (by omega)]
        refine ⟨Eqx.rf, ?_⟩
        rw [if_pos (by omega)]
    · refine AW_if_ne 22 dX7_arm_16 (by decide) (by decide) (fun h => absurd h (by decide)) (fun _ => ?_)
      refine AW_bipush dX7_arm_19 (by decide) ?_
      refine AW_iret dX7_arm_21 rfl ?_
      refine ⟨_, rfl, ?_⟩
      dsimp only
      rw [if_pos (by omega), if_neg (by omega)]
      exact ⟨rfl, rfl⟩
  · refine AW_if_ne 9 dX7_arm_4 (by decide) (by decide) (fun h => absurd h (by decide)) (fun _ => ?_)
    refine AW_iconst dX7_arm_7 ?_
    refine AW_iret dX7_arm_8 rfl ?_
    refine ⟨_, rfl, ?_⟩
    dsimp only
    rw [if_neg (by omega)]
    exact ⟨rfl, rfl⟩
