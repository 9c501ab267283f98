/-- the row behind a THING's going, when those behind it up to k have come one place on, and of k's TICKS the first t -/
def dropX (X : Row) (d k t : Nat) : Row := fun j => if j = 6423 then X 6423 - 1 else if (301 + d ≤ j ∧ j < 301 + k) ∨ (321 + d ≤ j ∧ j < 321 + k) ∨ (341 + d ≤ j ∧ j < 341 + k) ∨ (361 + d ≤ j ∧ j < 361 + k) then X (j + 1) else if 381 + 301 * d ≤ j ∧ j < 381 + 301 * k + t then X (j + 301) else X j
def dropS (X : Row) (thing : Int) : Int × Row := if 0 ≤ thing ∧ thing < X 6423 then (X 6423 - 1, dropX X thing.toNat (X 6423 - 1).toNat 0) else (-1, X)
/-- between the four rows and the TICKS of k -/
def dropY (X : Row) (d k t : Nat) : Row := fun j => if j = 6423 then X 6423 - 1 else if (301 + d ≤ j ∧ j < 301 + (k + 1)) ∨ (321 + d ≤ j ∧ j < 321 + (k + 1)) ∨ (341 + d ≤ j ∧ j < 341 + (k + 1)) ∨ (361 + d ≤ j ∧ j < 361 + (k + 1)) then X (j + 1) else if 381 + 301 * d ≤ j ∧ j < 381 + 301 * k + t then X (j + 301) else X j
theorem dropY_s {X : Row} {d k t : Nat} (hd : d ≤ k) (hk : k < 20) (ht : t < 301) : rup (dropY X d k t) (381 + 301 * k + t) (X (381 + 301 * k + 301 + t)) = dropY X d k (t + 1) := by
  funext j
  simp only [rup, dropY]
  by_cases e : j = 381 + 301 * k + t
  · rw [if_pos e]
    by_cases e6 : j = 6423
    · omega
    · rw [if_neg e6, if_neg (by omega), if_pos (by omega), e]
      congr 1
      omega
  · rw [if_neg e]
    by_cases e6 : j = 6423
    · rw [if_pos e6, if_pos e6]
    · rw [if_neg e6, if_neg e6]
      by_cases c : (301 + d ≤ j ∧ j < 301 + (k + 1)) ∨ (321 + d ≤ j ∧ j < 321 + (k + 1)) ∨ (341 + d ≤ j ∧ j < 341 + (k + 1)) ∨ (361 + d ≤ j ∧ j < 361 + (k + 1))
      · rw [if_pos c, if_pos c]
      · rw [if_neg c, if_neg c]
        by_cases c2 : 381 + 301 * d ≤ j ∧ j < 381 + 301 * k + t
        · rw [if_pos c2, if_pos (by omega)]
        · rw [if_neg c2, if_neg (by omega)]
theorem dropY_end {X : Row} {d k : Nat} : dropY X d k 301 = dropX X d (k + 1) 0 := by
  funext j
  simp only [dropX, dropY]
  rw [show 381 + 301 * (k + 1) + 0 = 381 + 301 * k + 301 by omega]
theorem dropX_4 {X : Row} {d k : Nat} (hd : d ≤ k) (hk : k < 19) : rup (rup (rup (rup (dropX X d k 0) (301 + k) (X (301 + k + 1))) (321 + k) (X (321 + k + 1))) (341 + k) (X (341 + k + 1))) (361 + k) (X (361 + k + 1)) = dropY X d k 0 := by
  funext j
  simp only [rup, dropX, dropY]
  by_cases e1 : j = 361 + k
  · rw [if_pos e1, if_neg (by omega), if_pos (by omega), e1]
  rw [if_neg e1]
  by_cases e2 : j = 341 + k
  · rw [if_pos e2, if_neg (by omega), if_pos (by omega), e2]
  rw [if_neg e2]
  by_cases e3 : j = 321 + k
  · rw [if_pos e3, if_neg (by omega), if_pos (by omega), e3]
  rw [if_neg e3]
  by_cases e4 : j = 301 + k
  · rw [if_pos e4, if_neg (by omega), if_pos (by omega), e4]
  rw [if_neg e4]
  by_cases e6 : j = 6423
  · rw [if_pos e6, if_pos e6]
  rw [if_neg e6, if_neg e6]
  by_cases c : (301 + d ≤ j ∧ j < 301 + k) ∨ (321 + d ≤ j ∧ j < 321 + k) ∨ (341 + d ≤ j ∧ j < 341 + k) ∨ (361 + d ≤ j ∧ j < 361 + k)
  · rw [if_pos c, if_pos (by omega)]
  · rw [if_neg c]
    by_cases c2 : (301 + d ≤ j ∧ j < 301 + (k + 1)) ∨ (321 + d ≤ j ∧ j < 321 + (k + 1)) ∨ (341 + d ≤ j ∧ j < 341 + (k + 1)) ∨ (361 + d ≤ j ∧ j < 361 + (k + 1))
    · omega
    · rw [if_neg c2]
theorem dropX_at {X : Row} {d k j : Nat} (h1 : j ≠ 6423) (h2 : ¬ ((301 + d ≤ j ∧ j < 301 + k) ∨ (321 + d ≤ j ∧ j < 321 + k) ∨ (341 + d ≤ j ∧ j < 341 + k) ∨ (361 + d ≤ j ∧ j < 361 + k))) (h3 : ¬ (381 + 301 * d ≤ j ∧ j < 381 + 301 * k)) : dropX X d k 0 j = X j := by
  simp only [dropX]
  rw [if_neg h1, if_neg h2, if_neg (by omega)]
theorem dropX_many {X : Row} {d k t : Nat} : dropX X d k t 6423 = X 6423 - 1 := if_pos rfl
theorem dropX_self {X : Row} {d : Nat} : dropX X d d 0 = rup X 6423 (X 6423 - 1) := by
  funext j
  simp only [dropX, rup]
  by_cases e6 : j = 6423
  · rw [if_pos e6, if_pos e6]
  · rw [if_neg e6, if_neg e6, if_neg (by omega), if_neg (by omega)]
theorem l_drop7t {σ0 : am_S} {X : Row} {d k : Nat} (hd : d ≤ k) (hk : k < 19) {Q : Option am_V → am_S → Prop} (hk2 : ∀ σ, MS σ0 σ (dropX X d (k + 1) 0) → AW am_tab mX7_drop 122 [some (vR 70), some (vI (d : Nat)), some (vI (k : Nat)), some (vI (301 : Nat))] [] σ Q) : ∀ t : Nat, t ≤ 301 → ∀ σ, MS σ0 σ (dropY X d k t) → AW am_tab mX7_drop 73 [some (vR 70), some (vI (d : Nat)), some (vI (k : Nat)), some (vI t)] [] σ Q :=
  up_loop (fun t ht ih σ hM => by
    refine AW_iload_n dX7_drop_73 rfl ?_
    refine AW_sipush dX7_drop_74 (by decide) ?_
    refine AW_icmp_ge 122 dX7_drop_77 (by decide) (by omega) (by omega) (fun h77 => ?_) (fun h77 => ?_)
    · have e : t = 301 := by omega
      subst e
      rw [dropY_end] at hM
      exact hk2 _ hM
    · refine AW_aload_n dX7_drop_80 rfl ?_
      refine AW_get dX7_drop_81 fX7_7 rfl rfl ?_
      refine AW_sipush dX7_drop_84 (by decide) ?_
      refine AW_sipush dX7_drop_87 (by decide) ?_
      refine AW_iload_n dX7_drop_90 rfl ?_
      refine AW_imul dX7_drop_91 ?_
      refine AW_iadd dX7_drop_92 ?_
      refine AW_iload_n dX7_drop_93 rfl ?_
      refine AW_iadd dX7_drop_94 ?_
      refine AW_aload_n dX7_drop_95 rfl ?_
      refine AW_get dX7_drop_96 fX7_7 rfl rfl ?_
      refine AW_sipush dX7_drop_99 (by decide) ?_
      refine AW_sipush dX7_drop_102 (by decide) ?_
      refine AW_iload_n dX7_drop_105 rfl ?_
      refine AW_imul dX7_drop_106 ?_
      refine AW_iadd dX7_drop_107 ?_
      refine AW_sipush dX7_drop_108 (by decide) ?_
      refine AW_iadd dX7_drop_111 ?_
      refine AW_iload_n dX7_drop_112 rfl ?_
      refine AW_iadd dX7_drop_113 ?_
      refine AW_ialdN (j := 381 + 301 * k + 301 + t) dX7_drop_114 rfl (Nat.le_of_ble_eq_true rfl) (by omega) (by omega) ?_
      refine AW_iastN (j := 381 + 301 * k + t) dX7_drop_115 rfl (Nat.le_of_ble_eq_true rfl) (by omega) (by omega) ?_
      refine AW_iinc (lv' := [_, _, _, _]) dX7_drop_116 rfl (by decide) rfl ?_
      refine AW_goto (tgt := 73) dX7_drop_119 (by decide) ?_
      have h9 := hM.set (j := 381 + 301 * k + t) (x := σ.1 71 (381 + 301 * k + 301 + t))
      have e : σ.1 71 (381 + 301 * k + 301 + t) = X (381 + 301 * k + 301 + t) := by
        rw [hM.1]
        simp only [dropY]
        rw [if_neg (by omega), if_neg (by omega), if_neg (by omega)]
      rw [e, dropY_s hd (by omega) (by omega)] at h9
      rw [e]
      exact ih (by omega) _ h9)
theorem l_drop7k {σ0 : am_S} {X : Row} (hM0 : 0 ≤ X 6423 ∧ X 6423 ≤ 20) {d : Nat} {Q : Option am_V → am_S → Prop} (hk2 : ∀ σ, MS σ0 σ (dropX X d (X 6423 - 1).toNat 0) → ∀ x, AW am_tab mX7_drop 128 [some (vR 70), some (vI (d : Nat)), some (vI (X 6423 - 1).toNat), x] [] σ Q) : ∀ k : Nat, k ≤ (X 6423 - 1).toNat → d ≤ k → ∀ σ, MS σ0 σ (dropX X d k 0) → ∀ x, AW am_tab mX7_drop 24 [some (vR 70), some (vI (d : Nat)), some (vI (k : Nat)), x] [] σ Q :=
  up_loop (fun k hk0 ih hdk σ hM x => by
    have hMany : σ.1 71 6423 = X 6423 - 1 := by rw [hM.1]; exact dropX_many
    refine AW_iload_n dX7_drop_24 rfl ?_
    refine AW_aload_n dX7_drop_25 rfl ?_
    refine AW_get dX7_drop_26 fX7_7 rfl rfl ?_
    refine AW_sipush dX7_drop_29 (by decide) ?_
    refine AW_ialdN (j := 6423) dX7_drop_32 rfl (Nat.le_of_ble_eq_true rfl) (by omega) (by omega) ?_
    refine AW_icmp_ge 128 dX7_drop_33 (by decide) (by omega) (by omega) (fun h33 => ?_) (fun h33 => ?_)
    · have e : k = (X 6423 - 1).toNat := by omega
      subst e
      exact hk2 _ hM _
    · refine AW_sipush dX7_drop_36 (by decide) ?_
      refine AW_istore_n (i := 3) (lv' := [_, _, _, _]) dX7_drop_39 rfl (by decide) (Nat.le_of_ble_eq_true rfl) rfl ?_
      refine AW_iload_n dX7_drop_40 rfl ?_
      refine AW_sipush dX7_drop_41 (by decide) ?_
      refine AW_icmp_gt 71 dX7_drop_44 (by decide) (by decide) (by decide) (fun h => absurd h (by decide)) (fun _ => ?_)
      refine AW_aload_n dX7_drop_47 rfl ?_
      refine AW_get dX7_drop_48 fX7_7 rfl rfl ?_
      refine AW_iload_n dX7_drop_51 rfl ?_
      refine AW_iload_n dX7_drop_52 rfl ?_
      refine AW_iadd dX7_drop_53 ?_
      refine AW_aload_n dX7_drop_54 rfl ?_
      refine AW_get dX7_drop_55 fX7_7 rfl rfl ?_
      refine AW_iload_n dX7_drop_58 rfl ?_
      refine AW_iload_n dX7_drop_59 rfl ?_
      refine AW_iadd dX7_drop_60 ?_
      refine AW_iconst dX7_drop_61 ?_
      refine AW_iadd dX7_drop_62 ?_
      refine AW_ialdN (j := 301 + k + 1) dX7_drop_63 rfl (Nat.le_of_ble_eq_true rfl) (by omega) (by omega) ?_
      refine AW_iastN (j := 301 + k) dX7_drop_64 rfl (Nat.le_of_ble_eq_true rfl) (by omega) (by omega) ?_
      refine AW_iinc (lv' := [_, _, _, _]) dX7_drop_65 rfl (by decide) rfl ?_
      refine AW_goto (tgt := 40) dX7_drop_68 (by decide) ?_
      -- row 301
      refine AW_iload_n dX7_drop_40 rfl ?_
      refine AW_sipush dX7_drop_41 (by decide) ?_
      refine AW_icmp_gt 71 dX7_drop_44 (by decide) (by decide) (by decide) (fun h => absurd h (by decide)) (fun _ => ?_)
      refine AW_aload_n dX7_drop_47 rfl ?_
      refine AW_get dX7_drop_48 fX7_7 rfl rfl ?_
      refine AW_iload_n dX7_drop_51 rfl ?_
      refine AW_iload_n dX7_drop_52 rfl ?_
      refine AW_iadd dX7_drop_53 ?_
      refine AW_aload_n dX7_drop_54 rfl ?_
      refine AW_get dX7_drop_55 fX7_7 rfl rfl ?_
      refine AW_iload_n dX7_drop_58 rfl ?_
      refine AW_iload_n dX7_drop_59 rfl ?_
      refine AW_iadd dX7_drop_60 ?_
      refine AW_iconst dX7_drop_61 ?_
      refine AW_iadd dX7_drop_62 ?_
      refine AW_ialdN (j := 321 + k + 1) dX7_drop_63 rfl (Nat.le_of_ble_eq_true rfl) (by omega) (by omega) ?_
      refine AW_iastN (j := 321 + k) dX7_drop_64 rfl (Nat.le_of_ble_eq_true rfl) (by omega) (by omega) ?_
      refine AW_iinc (lv' := [_, _, _, _]) dX7_drop_65 rfl (by decide) rfl ?_
      refine AW_goto (tgt := 40) dX7_drop_68 (by decide) ?_
      -- row 321
      refine AW_iload_n dX7_drop_40 rfl ?_
      refine AW_sipush dX7_drop_41 (by decide) ?_
      refine AW_icmp_gt 71 dX7_drop_44 (by decide) (by decide) (by decide) (fun h => absurd h (by decide)) (fun _ => ?_)
      refine AW_aload_n dX7_drop_47 rfl ?_
      refine AW_get dX7_drop_48 fX7_7 rfl rfl ?_
      refine AW_iload_n dX7_drop_51 rfl ?_
      refine AW_iload_n dX7_drop_52 rfl ?_
      refine AW_iadd dX7_drop_53 ?_
      refine AW_aload_n dX7_drop_54 rfl ?_
      refine AW_get dX7_drop_55 fX7_7 rfl rfl ?_
      refine AW_iload_n dX7_drop_58 rfl ?_
      refine AW_iload_n dX7_drop_59 rfl ?_
      refine AW_iadd dX7_drop_60 ?_
      refine AW_iconst dX7_drop_61 ?_
      refine AW_iadd dX7_drop_62 ?_
      refine AW_ialdN (j := 341 + k + 1) dX7_drop_63 rfl (Nat.le_of_ble_eq_true rfl) (by omega) (by omega) ?_
      refine AW_iastN (j := 341 + k) dX7_drop_64 rfl (Nat.le_of_ble_eq_true rfl) (by omega) (by omega) ?_
      refine AW_iinc (lv' := [_, _, _, _]) dX7_drop_65 rfl (by decide) rfl ?_
      refine AW_goto (tgt := 40) dX7_drop_68 (by decide) ?_
      -- row 341
      refine AW_iload_n dX7_drop_40 rfl ?_
      refine AW_sipush dX7_drop_41 (by decide) ?_
      refine AW_icmp_gt 71 dX7_drop_44 (by decide) (by decide) (by decide) (fun h => absurd h (by decide)) (fun _ => ?_)
      refine AW_aload_n dX7_drop_47 rfl ?_
      refine AW_get dX7_drop_48 fX7_7 rfl rfl ?_
      refine AW_iload_n dX7_drop_51 rfl ?_
      refine AW_iload_n dX7_drop_52 rfl ?_
      refine AW_iadd dX7_drop_53 ?_
      refine AW_aload_n dX7_drop_54 rfl ?_
      refine AW_get dX7_drop_55 fX7_7 rfl rfl ?_
      refine AW_iload_n dX7_drop_58 rfl ?_
      refine AW_iload_n dX7_drop_59 rfl ?_
      refine AW_iadd dX7_drop_60 ?_
      refine AW_iconst dX7_drop_61 ?_
      refine AW_iadd dX7_drop_62 ?_
      refine AW_ialdN (j := 361 + k + 1) dX7_drop_63 rfl (Nat.le_of_ble_eq_true rfl) (by omega) (by omega) ?_
      refine AW_iastN (j := 361 + k) dX7_drop_64 rfl (Nat.le_of_ble_eq_true rfl) (by omega) (by omega) ?_
      refine AW_iinc (lv' := [_, _, _, _]) dX7_drop_65 rfl (by decide) rfl ?_
      refine AW_goto (tgt := 40) dX7_drop_68 (by decide) ?_
      -- row 361
      refine AW_iload_n dX7_drop_40 rfl ?_
      refine AW_sipush dX7_drop_41 (by decide) ?_
      refine AW_icmp_gt 71 dX7_drop_44 (by decide) (by decide) (by decide) (fun _ => ?_) (fun h => absurd (by decide) h)
      have hx : ∀ j, j ≠ 6423 → ¬ ((301 + d ≤ j ∧ j < 301 + k) ∨ (321 + d ≤ j ∧ j < 321 + k) ∨ (341 + d ≤ j ∧ j < 341 + k) ∨ (361 + d ≤ j ∧ j < 361 + k)) → ¬ (381 + 301 * d ≤ j ∧ j < 381 + 301 * k) → σ.1 71 j = X j := fun j h1 h2 h3 => by rw [hM.1]; exact dropX_at h1 h2 h3
      have g1 : σ.1 71 (301 + k + 1) = X (301 + k + 1) := hx _ (by omega) (by omega) (by omega)
      have g2 : (am_up σ 71 (301 + k) (X (301 + k + 1))).1 71 (321 + k + 1) = X (321 + k + 1) := by
        rw [am_up_same, show rup (σ.1 71) (301 + k) (X (301 + k + 1)) (321 + k + 1) = σ.1 71 (321 + k + 1) from if_neg (by omega)]
        exact hx _ (by omega) (by omega) (by omega)
      have g3 : (am_up (am_up σ 71 (301 + k) (X (301 + k + 1))) 71 (321 + k) (X (321 + k + 1))).1 71 (341 + k + 1) = X (341 + k + 1) := by
        rw [am_up_same, am_up_same, show rup (rup (σ.1 71) (301 + k) (X (301 + k + 1))) (321 + k) (X (321 + k + 1)) (341 + k + 1) = σ.1 71 (341 + k + 1) from (if_neg (by omega)).trans (if_neg (by omega))]
        exact hx _ (by omega) (by omega) (by omega)
      have g4 : (am_up (am_up (am_up σ 71 (301 + k) (X (301 + k + 1))) 71 (321 + k) (X (321 + k + 1))) 71 (341 + k) (X (341 + k + 1))).1 71 (361 + k + 1) = X (361 + k + 1) := by
        rw [am_up_same, am_up_same, am_up_same, show rup (rup (rup (σ.1 71) (301 + k) (X (301 + k + 1))) (321 + k) (X (321 + k + 1))) (341 + k) (X (341 + k + 1)) (361 + k + 1) = σ.1 71 (361 + k + 1) from ((if_neg (by omega)).trans (if_neg (by omega))).trans (if_neg (by omega))]
        exact hx _ (by omega) (by omega) (by omega)
      rw [g1, g2, g3, g4]
      have h9 := (((hM.set (j := 301 + k) (x := X (301 + k + 1))).set (j := 321 + k) (x := X (321 + k + 1))).set (j := 341 + k) (x := X (341 + k + 1))).set (j := 361 + k) (x := X (361 + k + 1))
      rw [dropX_4 (by omega) (by omega)] at h9
      refine AW_iconst dX7_drop_71 ?_
      refine AW_istore_n (i := 3) (lv' := [_, _, _, _]) dX7_drop_72 rfl (by decide) (Nat.le_of_ble_eq_true rfl) rfl ?_
      refine l_drop7t (by omega) (by omega) (fun σ3 h8 => ?_) 0 (by omega) _ h9
      refine AW_iinc (lv' := [_, _, _, _]) dX7_drop_122 rfl (by decide) rfl ?_
      refine AW_goto (tgt := 24) dX7_drop_125 (by decide) ?_
      exact ih (by omega) (by omega) _ h8 _)
theorem c_drop7 {σ : am_S} (hT : WT (σ.1 71)) {thing : Int} (hthing : -2147483648 ≤ thing ∧ thing < 2147483648) : Runs am_tab mX7_drop [vR 70, vI thing] σ (QI (fun z σ' => z = (dropS (σ.1 71) thing).1 ∧ MS σ σ' (dropS (σ.1 71) thing).2)) := by
  refine Runs.of (by decide) rfl (by simp) (Nat.le_of_ble_eq_true rfl) ?_
  show AW am_tab mX7_drop 0 [some (vR 70), some (vI thing), none, none] [] σ _
  refine AW_aload_n dX7_drop_0 rfl ?_
  refine AW_iload_n dX7_drop_1 rfl ?_
  refine AW_cVI1 dX7_drop_2 kX7_86 (am_fit_b rfl) rfl rfl (Nat.le_of_ble_eq_true rfl) (c_isThing7 hthing hT.1) (fun z σ' hq => ?_)
  obtain ⟨rfl, ⟨rfl, h2⟩ | ⟨rfl, h2⟩⟩ := hq
  · refine AW_if_ne 10 dX7_drop_5 (by decide) (by decide) (fun _ => ?_) (fun h => absurd (by decide) h)
    obtain ⟨d, rfl⟩ : ∃ d : Nat, thing = d := ⟨thing.toNat, by omega⟩
    refine AW_aload_n dX7_drop_10 rfl ?_
    refine AW_get dX7_drop_11 fX7_7 rfl rfl ?_
    refine AW_sipush dX7_drop_14 (by decide) ?_
    refine AW_dup2 dX7_drop_17 ?_
    refine AW_ialdN (j := 6423) dX7_drop_18 rfl (Nat.le_of_ble_eq_true rfl) (by omega) (by omega) ?_
    refine AW_iconst dX7_drop_19 ?_
    refine AW_isub dX7_drop_20 ?_
    refine AW_iastN (j := 6423) dX7_drop_21 rfl (Nat.le_of_ble_eq_true rfl) (by omega) (by omega) ?_
    refine AW_iload_n dX7_drop_22 rfl ?_
    refine AW_istore_n (i := 2) (lv' := [_, _, _, _]) dX7_drop_23 rfl (by decide) (Nat.le_of_ble_eq_true rfl) rfl ?_
    have h9 := MS.rf (σ := σ).set (j := 6423) (x := σ.1 71 6423 - 1)
    rw [← dropX_self (d := d)] at h9
    refine l_drop7k hT.1 (fun σ2 h8 x => ?_) d (by omega) (Nat.le_refl _) _ h9 none
    refine AW_aload_n dX7_drop_128 rfl ?_
    refine AW_get dX7_drop_129 fX7_7 rfl rfl ?_
    refine AW_sipush dX7_drop_132 (by decide) ?_
    refine AW_ialdN (j := 6423) dX7_drop_135 rfl (Nat.le_of_ble_eq_true rfl) (by omega) (by omega) ?_
    refine AW_iret dX7_drop_136 rfl ?_
    refine ⟨_, rfl, ?_⟩
    simp only [dropS, Int.toNat_natCast]
    rw [if_pos (by omega)]
    exact ⟨by rw [h8.1]; exact dropX_many, h8⟩
  · refine AW_if_ne 10 dX7_drop_5 (by decide) (by decide) (fun h => absurd h (by decide)) (fun _ => ?_)
    refine AW_iconst dX7_drop_8 ?_
    refine AW_iret dX7_drop_9 rfl ?_
    refine ⟨_, rfl, ?_⟩
    simp only [dropS]
    rw [if_neg (by omega)]
    exact ⟨rfl, MS.rf⟩
