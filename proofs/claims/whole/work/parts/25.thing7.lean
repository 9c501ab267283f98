theorem c_planned7 {σ : am_S} (hS : WS (σ.1 71)) (hT : WT (σ.1 71)) (hA : WA (σ.1 71)) {n : Nat} (hmany : σ.1 71 6423 = (n : Nat)) (hN : WN (σ.1 71)) {k : Nat} (hk : k < n) {what : Int} (hwhat : -2147483648 ≤ what ∧ what < 2147483648) : Runs am_tab mX7_planned [vR 70, vI k, vI what] σ (QI (fun z σ' => Eqx [70, 74, 75, 76, 77, 78, 79, 80, 81, 82, 83, 84, 85] σ σ' ∧ ∃ pl, PlanSpec (gA (σ.1 71) (-6)) n pl ∧ z = (if what = 5 then pTick pl k else if what = 6 then pArm pl k else (trS (σ.1 71) pl n 1204).2 k))) := by
  refine Runs.of (by decide) rfl (by simp) (Nat.le_of_ble_eq_true rfl) ?_
  show AW am_tab mX7_planned 0 [some (vR 70), some (vI k), some (vI what)] [] σ _
  refine AW_aload_n dX7_planned_0 rfl ?_
  refine AW_cVV0 dX7_planned_1 kX7_119 (am_fit_b rfl) rfl rfl (Nat.le_of_ble_eq_true rfl) (c_layPlan7 hS hT hA hmany) (fun σ' hq => ?_)
  obtain ⟨hE, pl, hPl⟩ := hq
  have hm2 : σ'.1 71 6423 = (n : Nat) := by rw [hE.1 71 (by decide)]; exact hmany
  have hn : n ≤ 20 := by have := hT.1; omega
  refine AW_aload_n dX7_planned_4 rfl ?_
  refine AW_cVV0 dX7_planned_5 kX7_122 (am_fit_b rfl) rfl rfl (Nat.le_of_ble_eq_true rfl) (c_layTrays7 (σ0 := σ') (X := σ.1 71) (n := n) (pl := pl) hPl.1 hPl.2.1 (hE.1 71 (by decide)) hmany hn hT hN) (fun σ3 hq3 => ?_)
  obtain ⟨hE3, hTR⟩ := hq3
  have hEE := (hE.mono (S' := [70, 74, 75, 76, 77, 78, 79, 80, 81, 82, 83, 84, 85]) (by decide)).tr (hE3.mono (by decide))
  refine AW_iload_n dX7_planned_8 rfl ?_
  refine AW_iconst dX7_planned_9 ?_
  refine AW_icmp_ne 22 dX7_planned_10 (by decide) (by omega) (by omega) (fun h10 => ?_) (fun h10 => ?_)
  · refine AW_iload_n dX7_planned_22 rfl ?_
    refine AW_bipush dX7_planned_23 (by decide) ?_
    refine AW_icmp_ne 37 dX7_planned_25 (by decide) (by omega) (by omega) (fun h25 => ?_) (fun h25 => ?_)
    · refine AW_aload_n dX7_planned_37 rfl ?_
      refine AW_get dX7_planned_38 fX7_53 rfl rfl ?_
      refine AW_iload_n dX7_planned_41 rfl ?_
      refine AW_ialdN (j := k) dX7_planned_42 rfl (Nat.le_of_ble_eq_true rfl) (by omega) (by omega) ?_
      refine AW_iret dX7_planned_43 rfl ?_
      refine ⟨_, rfl, hEE, pl, hPl.1, ?_⟩
      have hri := wbR_at (hPl.2.1 k hk)
      first
      | (rw [if_pos (by omega), hE3.1 82 (by decide)]; exact hri.1)
      | (rw [if_neg (by omega), if_pos (by omega), hE3.1 83 (by decide)]; exact hri.2)
      | (rw [if_neg (by omega), if_neg (by omega)]; exact hTR.2 k (by omega))
    · refine AW_aload_n dX7_planned_28 rfl ?_
      refine AW_get dX7_planned_29 fX7_47 rfl rfl ?_
      refine AW_iload_n dX7_planned_32 rfl ?_
      refine AW_ialdN (j := k) dX7_planned_33 rfl (Nat.le_of_ble_eq_true rfl) (by omega) (by omega) ?_
      refine AW_goto (tgt := 43) dX7_planned_34 (by decide) ?_
      refine AW_iret dX7_planned_43 rfl ?_
      refine ⟨_, rfl, hEE, pl, hPl.1, ?_⟩
      have hri := wbR_at (hPl.2.1 k hk)
      first
      | (rw [if_pos (by omega), hE3.1 82 (by decide)]; exact hri.1)
      | (rw [if_neg (by omega), if_pos (by omega), hE3.1 83 (by decide)]; exact hri.2)
      | (rw [if_neg (by omega), if_neg (by omega)]; exact hTR.2 k (by omega))
  · refine AW_aload_n dX7_planned_13 rfl ?_
    refine AW_get dX7_planned_14 fX7_44 rfl rfl ?_
    refine AW_iload_n dX7_planned_17 rfl ?_
    refine AW_ialdN (j := k) dX7_planned_18 rfl (Nat.le_of_ble_eq_true rfl) (by omega) (by omega) ?_
    refine AW_goto (tgt := 43) dX7_planned_19 (by decide) ?_
    refine AW_iret dX7_planned_43 rfl ?_
    refine ⟨_, rfl, hEE, pl, hPl.1, ?_⟩
    have hri := wbR_at (hPl.2.1 k hk)
    first
    | (rw [if_pos (by omega), hE3.1 82 (by decide)]; exact hri.1)
    | (rw [if_neg (by omega), if_pos (by omega), hE3.1 83 (by decide)]; exact hri.2)
    | (rw [if_neg (by omega), if_neg (by omega)]; exact hTR.2 k (by omega))
theorem c_tray7 {σ : am_S} (hS : WS (σ.1 71)) (hT : WT (σ.1 71)) (hA : WA (σ.1 71)) {n : Nat} (hmany : σ.1 71 6423 = (n : Nat)) (hN : WN (σ.1 71)) {kind part : Int} (hkind : -2147483648 ≤ kind ∧ kind < 2147483648) (hpart : -2147483648 ≤ part ∧ part < 2147483648) : Runs am_tab mX7_tray [vR 70, vI kind, vI part] σ (QI (fun z σ' => if (0 ≤ kind ∧ kind ≤ 2) ∧ 0 ≤ part ∧ part ≤ σ.1 71 6422 - 1 then Eqx [70, 74, 75, 76, 77, 78, 79, 80, 81, 82, 83, 84, 85] σ σ' ∧ ∃ pl, PlanSpec (gA (σ.1 71) (-6)) n pl ∧ z = (trS (σ.1 71) pl n 1204).1 (6 * kind.toNat + part.toNat) else z = -2 ∧ σ' = σ)) := by
  refine Runs.of (by decide) rfl (by simp) (Nat.le_of_ble_eq_true rfl) ?_
  show AW am_tab mX7_tray 0 [some (vR 70), some (vI kind), some (vI part)] [] σ _
  have hsh := hN.2
  refine AW_iload_n dX7_tray_0 rfl ?_
  refine AW_iconst dX7_tray_1 ?_
  refine AW_iconst dX7_tray_2 ?_
  refine AW_cSI3 dX7_tray_3 kX7_56 (am_fit_b rfl) (Nat.le_of_ble_eq_true rfl) (c_in hkind (by omega) (by omega)) (fun z σ' hq => ?_)
  obtain ⟨rfl, ⟨rfl, h3⟩ | ⟨rfl, h3⟩⟩ := hq
  · refine AW_if_eq 27 dX7_tray_6 (by decide) (by decide) (fun h => absurd h (by decide)) (fun _ => ?_)
    refine AW_iload_n dX7_tray_9 rfl ?_
    refine AW_iconst dX7_tray_10 ?_
    refine AW_aload_n dX7_tray_11 rfl ?_
    refine AW_get dX7_tray_12 fX7_7 rfl rfl ?_
    refine AW_sipush dX7_tray_15 (by decide) ?_
    refine AW_ialdN (j := 6422) dX7_tray_18 rfl (Nat.le_of_ble_eq_true rfl) (by omega) (by omega) ?_
    refine AW_iconst dX7_tray_19 ?_
    refine AW_isub dX7_tray_20 ?_
    refine AW_cSI3 dX7_tray_21 kX7_56 (am_fit_b rfl) (Nat.le_of_ble_eq_true rfl) (c_in hpart (by omega) (by omega)) (fun z σ' hq => ?_)
    obtain ⟨rfl, ⟨rfl, h21⟩ | ⟨rfl, h21⟩⟩ := hq
    · refine AW_if_ne 30 dX7_tray_24 (by decide) (by decide) (fun _ => ?_) (fun h => absurd (by decide) h)
      refine AW_aload_n dX7_tray_30 rfl ?_
      refine AW_cVV0 dX7_tray_31 kX7_119 (am_fit_b rfl) rfl rfl (Nat.le_of_ble_eq_true rfl) (c_layPlan7 hS hT hA hmany) (fun σ' hq => ?_)
      obtain ⟨hE, pl, hPl⟩ := hq
      have hm2 : σ'.1 71 6423 = (n : Nat) := by rw [hE.1 71 (by decide)]; exact hmany
      have hn : n ≤ 20 := by have := hT.1; omega
      refine AW_aload_n dX7_tray_34 rfl ?_
      refine AW_cVV0 dX7_tray_35 kX7_122 (am_fit_b rfl) rfl rfl (Nat.le_of_ble_eq_true rfl) (c_layTrays7 (σ0 := σ') (X := σ.1 71) (n := n) (pl := pl) hPl.1 hPl.2.1 (hE.1 71 (by decide)) hmany hn hT hN) (fun σ3 hq3 => ?_)
      obtain ⟨hE3, hTR⟩ := hq3
      have hEE := (hE.mono (S' := [70, 74, 75, 76, 77, 78, 79, 80, 81, 82, 83, 84, 85]) (by decide)).tr (hE3.mono (by decide))
      refine AW_aload_n dX7_tray_38 rfl ?_
      refine AW_get dX7_tray_39 fX7_50 rfl rfl ?_
      refine AW_bipush dX7_tray_42 (by decide) ?_
      refine AW_iload_n dX7_tray_44 rfl ?_
      refine AW_imul dX7_tray_45 ?_
      refine AW_iload_n dX7_tray_46 rfl ?_
      refine AW_iadd dX7_tray_47 ?_
      refine AW_ialdN (j := 6 * kind.toNat + part.toNat) dX7_tray_48 rfl (Nat.le_of_ble_eq_true rfl) (by omega) (by omega) ?_
      refine AW_iret dX7_tray_49 rfl ?_
      refine ⟨_, rfl, ?_⟩
      dsimp only
      rw [if_pos (by omega)]
      exact ⟨hEE, pl, hPl.1, hTR.1 _ (by omega)⟩
    · refine AW_if_ne 30 dX7_tray_24 (by decide) (by decide) (fun h => absurd h (by decide)) (fun _ => ?_)
      refine AW_bipush dX7_tray_27 (by decide) ?_
      refine AW_iret dX7_tray_29 rfl ?_
      refine ⟨_, rfl, ?_⟩
      dsimp only
      rw [if_neg (by omega)]
      exact ⟨rfl, rfl⟩
  · refine AW_if_eq 27 dX7_tray_6 (by decide) (by decide) (fun _ => ?_) (fun h => absurd (by decide) h)
    refine AW_bipush dX7_tray_27 (by decide) ?_
    refine AW_iret dX7_tray_29 rfl ?_
    refine ⟨_, rfl, ?_⟩
    dsimp only
    rw [if_neg (by omega)]
    exact ⟨rfl, rfl⟩
def caN (X : Row) (k : Nat) : Nat → Int × Int × Int
  | 0 => (-6, -6, 0)
  | t + 1 => if 0 ≤ avX X (-6) k t 4 then ((if (caN X k t).1 < 0 then (t : Int) else (caN X k t).1), (t : Int), (caN X k t).2.2 + 1) else caN X k t
theorem caN_b {X : Row} {k : Nat} : ∀ t, (-6 ≤ (caN X k t).1 ∧ (caN X k t).1 ≤ t) ∧ (-6 ≤ (caN X k t).2.1 ∧ (caN X k t).2.1 ≤ t) ∧ 0 ≤ (caN X k t).2.2 ∧ (caN X k t).2.2 ≤ t := by
  intro t
  induction t with
  | zero => simp [caN]
  | succ t ih =>
    simp only [caN]
    split
    · dsimp only
      split <;> omega
    · omega
theorem l_canAt7 {σ : am_S} {n k : Nat} (hk : k < n) (hn : n ≤ 20) {what : Int} {Q : Option am_V → am_S → Prop} (hk2 : AW am_tab mX7_canAt 67 [some (vR 70), some (vI (k : Nat)), some (vI what), some (vI (caN (σ.1 71) k 301).1), some (vI (caN (σ.1 71) k 301).2.1), some (vI (caN (σ.1 71) k 301).2.2), some (vI (301 : Nat))] [] (laS σ (-6) (301 * n)) Q) : ∀ t : Nat, t ≤ 301 → AW am_tab mX7_canAt 19 [some (vR 70), some (vI (k : Nat)), some (vI what), some (vI (caN (σ.1 71) k t).1), some (vI (caN (σ.1 71) k t).2.1), some (vI (caN (σ.1 71) k t).2.2), some (vI (t : Nat))] [] (laS σ (-6) (301 * n)) Q :=
  up_loop (fun t ht ih => by
    have hcb := caN_b (X := σ.1 71) (k := k) t
    refine AW_iload dX7_canAt_19 rfl ?_
    refine AW_sipush dX7_canAt_21 (by decide) ?_
    refine AW_icmp_ge 67 dX7_canAt_24 (by decide) (by omega) (by omega) (fun h24 => ?_) (fun h24 => ?_)
    · have e : t = 301 := by omega
      subst e
      exact hk2
    · refine AW_aload_n dX7_canAt_27 rfl ?_
      refine AW_get dX7_canAt_28 fX7_23 rfl rfl ?_
      refine AW_sipush dX7_canAt_31 (by decide) ?_
      refine AW_iload_n dX7_canAt_34 rfl ?_
      refine AW_imul dX7_canAt_35 ?_
      refine AW_iload dX7_canAt_36 rfl ?_
      refine AW_iadd dX7_canAt_38 ?_
      refine AW_ialdN (j := 301 * k + t) dX7_canAt_39 rfl (Nat.le_of_ble_eq_true rfl) (by omega) (by omega) ?_
      have hr75 : (laS σ (-6) (301 * n)).1 75 (301 * k + t) = avX (σ.1 71) (-6) k t 4 := by
        unfold laS
        rw [am_row_at (by omega)]
        unfold armR
        rw [show (301 * k + t) / 301 = k by omega, show (301 * k + t) % 301 = t by omega]
      rw [hr75]
      have hab := avX_b (X := σ.1 71) (w := -6) (k := k) (t := t) 4
      refine AW_if_lt 61 dX7_canAt_40 (by decide) (by omega) (fun h40 => ?_) (fun h40 => ?_)
      · refine AW_iinc (lv' := [_, _, _, _, _, _, _]) dX7_canAt_61 rfl (by decide) rfl ?_
        refine AW_goto (tgt := 19) dX7_canAt_64 (by decide) ?_
        have h9 := ih (by omega)
        simp only [caN] at h9
        first
        | (rw [if_pos (by omega), if_pos (by omega)] at h9; exact h9)
        | (rw [if_pos (by omega), if_neg (by omega)] at h9; exact h9)
        | (rw [if_neg (by omega)] at h9; exact h9)
      · refine AW_iload_n dX7_canAt_43 rfl ?_
        refine AW_if_ge 52 dX7_canAt_44 (by decide) (by omega) (fun h44 => ?_) (fun h44 => ?_)
        · refine AW_iload_n dX7_canAt_52 rfl ?_
          refine AW_istore_n (i := 3) (lv' := [_, _, _, _, _, _, _]) dX7_canAt_53 rfl (by decide) (Nat.le_of_ble_eq_true rfl) rfl ?_
          refine AW_iload dX7_canAt_54 rfl ?_
          refine AW_istore (lv' := [_, _, _, _, _, _, _]) dX7_canAt_56 (by decide) (Nat.le_of_ble_eq_true rfl) rfl ?_
          refine AW_iinc (lv' := [_, _, _, _, _, _, _]) dX7_canAt_58 rfl (by decide) rfl ?_
          refine AW_iinc (lv' := [_, _, _, _, _, _, _]) dX7_canAt_61 rfl (by decide) rfl ?_
          refine AW_goto (tgt := 19) dX7_canAt_64 (by decide) ?_
          have h9 := ih (by omega)
          simp only [caN] at h9
          first
          | (rw [if_pos (by omega), if_pos (by omega)] at h9; exact h9)
          | (rw [if_pos (by omega), if_neg (by omega)] at h9; exact h9)
          | (rw [if_neg (by omega)] at h9; exact h9)
        · refine AW_iload dX7_canAt_47 rfl ?_
          refine AW_goto (tgt := 53) dX7_canAt_49 (by decide) ?_
          refine AW_istore_n (i := 3) (lv' := [_, _, _, _, _, _, _]) dX7_canAt_53 rfl (by decide) (Nat.le_of_ble_eq_true rfl) rfl ?_
          refine AW_iload dX7_canAt_54 rfl ?_
          refine AW_istore (lv' := [_, _, _, _, _, _, _]) dX7_canAt_56 (by decide) (Nat.le_of_ble_eq_true rfl) rfl ?_
          refine AW_iinc (lv' := [_, _, _, _, _, _, _]) dX7_canAt_58 rfl (by decide) rfl ?_
          refine AW_iinc (lv' := [_, _, _, _, _, _, _]) dX7_canAt_61 rfl (by decide) rfl ?_
          refine AW_goto (tgt := 19) dX7_canAt_64 (by decide) ?_
          have h9 := ih (by omega)
          simp only [caN] at h9
          first
          | (rw [if_pos (by omega), if_pos (by omega)] at h9; exact h9)
          | (rw [if_pos (by omega), if_neg (by omega)] at h9; exact h9)
          | (rw [if_neg (by omega)] at h9; exact h9))
theorem c_canAt7 {σ : am_S} (hS : WS (σ.1 71)) (hT : WT (σ.1 71)) (hA : WA (σ.1 71)) {n : Nat} (hmany : σ.1 71 6423 = (n : Nat)) {k : Nat} (hk : k < n) {what : Int} (hwhat : -2147483648 ≤ what ∧ what < 2147483648) : Runs am_tab mX7_canAt [vR 70, vI k, vI what] σ (QI (fun z σ' => z = (if what = 8 then (caN (σ.1 71) k 301).1 else if what = 9 then (caN (σ.1 71) k 301).2.1 else (caN (σ.1 71) k 301).2.2) ∧ Eqx [70, 74, 75, 76, 77, 78, 79, 80, 81, 82, 83, 84, 85] σ σ')) := by
  refine Runs.of (by decide) rfl (by simp) (Nat.le_of_ble_eq_true rfl) ?_
  show AW am_tab mX7_canAt 0 [some (vR 70), some (vI k), some (vI what), none, none, none, none] [] σ _
  have hn : n ≤ 20 := by have := hT.1; omega
  refine AW_aload_n dX7_canAt_0 rfl ?_
  refine AW_bipush dX7_canAt_1 (by decide) ?_
  refine AW_cVV1 dX7_canAt_3 kX7_105 (am_fit_b rfl) rfl rfl (Nat.le_of_ble_eq_true rfl) (c_layArms7 hS hT hA (by omega)) (fun σ' hq => ?_)
  replace hq := hq.symm
  subst hq
  refine AW_bipush dX7_canAt_6 (by decide) ?_
  refine AW_istore_n (i := 3) (lv' := [_, _, _, _, _, _, _]) dX7_canAt_8 rfl (by decide) (Nat.le_of_ble_eq_true rfl) rfl ?_
  refine AW_bipush dX7_canAt_9 (by decide) ?_
  refine AW_istore (lv' := [_, _, _, _, _, _, _]) dX7_canAt_11 (by decide) (Nat.le_of_ble_eq_true rfl) rfl ?_
  refine AW_iconst dX7_canAt_13 ?_
  refine AW_istore (lv' := [_, _, _, _, _, _, _]) dX7_canAt_14 (by decide) (Nat.le_of_ble_eq_true rfl) rfl ?_
  refine AW_iconst dX7_canAt_16 ?_
  refine AW_istore (lv' := [_, _, _, _, _, _, _]) dX7_canAt_17 (by decide) (Nat.le_of_ble_eq_true rfl) rfl ?_
  have e9 : (σ.1 71 6423).toNat = n := by rw [hmany]; rfl
  rw [e9]
  refine l_canAt7 hk hn ?_ 0 (by omega)
  refine AW_iload_n dX7_canAt_67 rfl ?_
  refine AW_bipush dX7_canAt_68 (by decide) ?_
  refine AW_icmp_ne 77 dX7_canAt_70 (by decide) (by omega) (by omega) (fun h70 => ?_) (fun h70 => ?_)
  · refine AW_iload_n dX7_canAt_77 rfl ?_
    refine AW_bipush dX7_canAt_78 (by decide) ?_
    refine AW_icmp_ne 88 dX7_canAt_80 (by decide) (by omega) (by omega) (fun h80 => ?_) (fun h80 => ?_)
    · refine AW_iload dX7_canAt_88 rfl ?_
      refine AW_iret dX7_canAt_90 rfl ?_
      refine ⟨_, rfl, ?_, ?_⟩
      · first
        | (rw [if_pos (by omega)])
        | (rw [if_neg (by omega), if_pos (by omega)])
        | (rw [if_neg (by omega), if_neg (by omega)])
      · unfold laS
        exact (Eqx.rf.row (by decide)).row (by decide)
    · refine AW_iload dX7_canAt_83 rfl ?_
      refine AW_goto (tgt := 90) dX7_canAt_85 (by decide) ?_
      refine AW_iret dX7_canAt_90 rfl ?_
      refine ⟨_, rfl, ?_, ?_⟩
      · first
        | (rw [if_pos (by omega)])
        | (rw [if_neg (by omega), if_pos (by omega)])
        | (rw [if_neg (by omega), if_neg (by omega)])
      · unfold laS
        exact (Eqx.rf.row (by decide)).row (by decide)
  · refine AW_iload_n dX7_canAt_73 rfl ?_
    refine AW_goto (tgt := 90) dX7_canAt_74 (by decide) ?_
    refine AW_iret dX7_canAt_90 rfl ?_
    refine ⟨_, rfl, ?_, ?_⟩
    · first
      | (rw [if_pos (by omega)])
      | (rw [if_neg (by omega), if_pos (by omega)])
      | (rw [if_neg (by omega), if_neg (by omega)])
    · unfold laS
      exact (Eqx.rf.row (by decide)).row (by decide)
theorem c_thing7 {σ : am_S} (hS : WS (σ.1 71)) (hT : WT (σ.1 71)) (hA : WA (σ.1 71)) {n : Nat} (hmany : σ.1 71 6423 = (n : Nat)) (hN : WN (σ.1 71)) {thing what : Int} (hthing : -2147483648 ≤ thing ∧ thing < 2147483648) (hwhat : -2147483648 ≤ what ∧ what < 2147483648) : Runs am_tab mX7_thing [vR 70, vI thing, vI what] σ (QI (fun z σ' => if 0 ≤ thing ∧ thing < σ.1 71 6423 then (if 0 ≤ what ∧ what ≤ 10 then Eqx [70, 74, 75, 76, 77, 78, 79, 80, 81, 82, 83, 84, 85] σ σ' ∧ (if what < 4 then z = σ.1 71 (301 + 20 * what.toNat + thing.toNat) else if what = 4 then z = seenN (σ.1 71) thing.toNat 301 else if what < 8 then (∃ pl, PlanSpec (gA (σ.1 71) (-6)) n pl ∧ z = (if what = 5 then pTick pl thing.toNat else if what = 6 then pArm pl thing.toNat else (trS (σ.1 71) pl n 1204).2 thing.toNat)) else z = (if what = 8 then (caN (σ.1 71) thing.toNat 301).1 else if what = 9 then (caN (σ.1 71) thing.toNat 301).2.1 else (caN (σ.1 71) thing.toNat 301).2.2)) else z = -2 ∧ σ' = σ) else z = -1 ∧ σ' = σ)) := by
  refine Runs.of (by decide) rfl (by simp) (Nat.le_of_ble_eq_true rfl) ?_
  show AW am_tab mX7_thing 0 [some (vR 70), some (vI thing), some (vI what)] [] σ _
  have hM := hT.1
  refine AW_aload_n dX7_thing_0 rfl ?_
  refine AW_iload_n dX7_thing_1 rfl ?_
  refine AW_cVI1 dX7_thing_2 kX7_86 (am_fit_b rfl) rfl rfl (Nat.le_of_ble_eq_true rfl) (c_isThing7 hthing hT.1) (fun z σ' hq => ?_)
  obtain ⟨rfl, ⟨rfl, h2⟩ | ⟨rfl, h2⟩⟩ := hq
  · refine AW_if_ne 10 dX7_thing_5 (by decide) (by decide) (fun _ => ?_) (fun h => absurd (by decide) h)
    refine AW_iload_n dX7_thing_10 rfl ?_
    refine AW_iconst dX7_thing_11 ?_
    refine AW_bipush dX7_thing_12 (by decide) ?_
    refine AW_cSI3 dX7_thing_14 kX7_56 (am_fit_b rfl) (Nat.le_of_ble_eq_true rfl) (c_in hwhat (by omega) (by omega)) (fun z σ' hq => ?_)
    obtain ⟨rfl, ⟨rfl, h14⟩ | ⟨rfl, h14⟩⟩ := hq
    · refine AW_if_ne 23 dX7_thing_17 (by decide) (by decide) (fun _ => ?_) (fun h => absurd (by decide) h)
      obtain ⟨k, rfl⟩ : ∃ k : Nat, thing = k := ⟨thing.toNat, by omega⟩
      refine AW_iload_n dX7_thing_23 rfl ?_
      refine AW_iconst dX7_thing_24 ?_
      refine AW_icmp_ge 46 dX7_thing_25 (by decide) (by omega) (by omega) (fun h25 => ?_) (fun h25 => ?_)
      · refine AW_iload_n dX7_thing_46 rfl ?_
        refine AW_iconst dX7_thing_47 ?_
        refine AW_icmp_ne 59 dX7_thing_48 (by decide) (by omega) (by omega) (fun h48 => ?_) (fun h48 => ?_)
        · refine AW_iload_n dX7_thing_59 rfl ?_
          refine AW_bipush dX7_thing_60 (by decide) ?_
          refine AW_icmp_ge 74 dX7_thing_62 (by decide) (by omega) (by omega) (fun h62 => ?_) (fun h62 => ?_)
          · refine AW_aload_n dX7_thing_74 rfl ?_
            refine AW_iload_n dX7_thing_75 rfl ?_
            refine AW_iload_n dX7_thing_76 rfl ?_
            refine AW_cVI2 dX7_thing_77 kX7_131 (am_fit_b rfl) rfl rfl (Nat.le_of_ble_eq_true rfl) (c_canAt7 hS hT hA hmany (by omega) hwhat) (fun z σ' hq => ?_)
            obtain ⟨hz, hE⟩ := hq
            refine AW_iret dX7_thing_80 rfl ?_
            refine ⟨_, rfl, ?_⟩
            dsimp only
            rw [if_pos (by omega), if_pos (by omega)]
            refine ⟨hE, ?_⟩
            rw [if_neg (by omega), if_neg (by omega), if_neg (by omega), Int.toNat_natCast]
            exact hz
          · refine AW_aload_n dX7_thing_65 rfl ?_
            refine AW_iload_n dX7_thing_66 rfl ?_
            refine AW_iload_n dX7_thing_67 rfl ?_
            refine AW_cVI2 dX7_thing_68 kX7_128 (am_fit_b rfl) rfl rfl (Nat.le_of_ble_eq_true rfl) (c_planned7 hS hT hA hmany hN (by omega) hwhat) (fun z σ' hq => ?_)
            obtain ⟨hE, pl, hPl, hz⟩ := hq
            refine AW_goto (tgt := 80) dX7_thing_71 (by decide) ?_
            refine AW_iret dX7_thing_80 rfl ?_
            refine ⟨_, rfl, ?_⟩
            dsimp only
            rw [if_pos (by omega), if_pos (by omega)]
            refine ⟨hE, ?_⟩
            rw [if_neg (by omega), if_neg (by omega), if_pos (by omega), Int.toNat_natCast]
            exact ⟨pl, hPl, hz⟩
        · refine AW_aload_n dX7_thing_51 rfl ?_
          refine AW_iload_n dX7_thing_52 rfl ?_
          refine AW_cVI1 dX7_thing_53 kX7_125 (am_fit_b rfl) rfl rfl (Nat.le_of_ble_eq_true rfl) (c_seenOf7 hT (by omega)) (fun z σ' hq => ?_)
          obtain ⟨hz, hs⟩ := hq
          replace hz := hz.symm
          subst hz
          replace hs := hs.symm
          subst hs
          refine AW_goto (tgt := 80) dX7_thing_56 (by decide) ?_
          refine AW_iret dX7_thing_80 rfl ?_
          refine ⟨_, rfl, ?_⟩
          dsimp only
          rw [if_pos (by omega), if_pos (by omega)]
          refine ⟨Eqx.rf, ?_⟩
          rw [if_neg (by omega), if_pos (by omega), Int.toNat_natCast]
      · refine AW_aload_n dX7_thing_28 rfl ?_
        refine AW_get dX7_thing_29 fX7_7 rfl rfl ?_
        refine AW_sipush dX7_thing_32 (by decide) ?_
        refine AW_bipush dX7_thing_35 (by decide) ?_
        refine AW_iload_n dX7_thing_37 rfl ?_
        refine AW_imul dX7_thing_38 ?_
        refine AW_iadd dX7_thing_39 ?_
        refine AW_iload_n dX7_thing_40 rfl ?_
        refine AW_iadd dX7_thing_41 ?_
        refine AW_ialdN (j := 301 + 20 * what.toNat + k) dX7_thing_42 rfl (Nat.le_of_ble_eq_true rfl) (by omega) (by omega) ?_
        refine AW_goto (tgt := 80) dX7_thing_43 (by decide) ?_
        refine AW_iret dX7_thing_80 rfl ?_
        refine ⟨_, rfl, ?_⟩
        dsimp only
        rw [if_pos (by omega), if_pos (by omega)]
        refine ⟨Eqx.rf, ?_⟩
        rw [if_pos (by omega), Int.toNat_natCast]
    · refine AW_if_ne 23 dX7_thing_17 (by decide) (by decide) (fun h => absurd h (by decide)) (fun _ => ?_)
      refine AW_bipush dX7_thing_20 (by decide) ?_
      refine AW_iret dX7_thing_22 rfl ?_
      refine ⟨_, rfl, ?_⟩
      dsimp only
      rw [if_pos (by omega), if_neg (by omega)]
      exact ⟨rfl, rfl⟩
  · refine AW_if_ne 10 dX7_thing_5 (by decide) (by decide) (fun h => absurd h (by decide)) (fun _ => ?_)
    refine AW_iconst dX7_thing_8 ?_
    refine AW_iret dX7_thing_9 rfl ?_
    refine ⟨_, rfl, ?_⟩
    dsimp only
    rw [if_neg (by omega)]
    exact ⟨rfl, rfl⟩
