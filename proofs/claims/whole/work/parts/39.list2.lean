set_option maxHeartbeats 4000000 in
theorem l_listSlots {X : Row} {q k : Nat} {w : Int} {σ0 : am_S} (hq : PT q) (hS : WS X) (hT : WT X) (hA : WA X) (hSO : SOK σ0 X) (hk : (k : Int) < X 6423) (hw : -10 ≤ w ∧ w ≤ 10) {Q : Option am_V → am_S → Prop} (hQ : ∀ σ, Eqx [q + 1, q + 2] σ0 σ → (∀ i, (i < 20 * k ∨ 20 * k + 20 ≤ i) → σ.1 (q + 1) i = σ0.1 (q + 1) i) → (∀ j, j ≠ k → σ.1 (q + 2) j = σ0.1 (q + 2) j) → LsOK (gA X w) k (σ.1 (q + 1)) (σ.1 (q + 2)) → Q none σ) : ∀ i : Nat, i ≤ 4 → ∀ (pl : Int), (-1 ≤ pl ∧ pl ≤ 999) → ∀ (z : Int) (σ : am_S), Eqx [q + 1, q + 2] σ0 σ → (∀ i, (i < 20 * k ∨ 20 * k + 20 ≤ i) → σ.1 (q + 1) i = σ0.1 (q + 1) i) → (∀ j, j ≠ k → σ.1 (q + 2) j = σ0.1 (q + 2) j) → (∃ c : Nat, σ.1 (q + 2) k = c ∧ LsP (gA X w) k (fun s => X (6401 + s.2) ≤ pl) (σ.1 (q + 1)) c) → i ≤ cnt (fun b => decide (X (6401 + b) ≤ pl)) 4 → ((z = -1 ∧ ∀ b, b < 4 → X (6401 + b) ≤ pl) ∨ ∃ a : Nat, z = a ∧ a < 4 ∧ pl < X (6401 + a) ∧ ∀ b, b < 4 → pl < X (6401 + b) → X (6401 + a) ≤ X (6401 + b)) → AW am_tab mX2_listSlots 20 [some (vR q), some (vR 2), some (vI (k : Nat)), some (vI w), some (vI z), some (vI (i : Nat))] [] σ Q :=
  up_loop (fun i hi0 ih pl hplb z σ hE hout hsc hLq hcnt hz => by
    have hzb : -1 ≤ z ∧ z < 4 := by
      rcases hz with ⟨rfl, _⟩ | ⟨a, rfl, h, _⟩ <;> omega
    have hM := hT.1
    obtain ⟨c, hc, hLs⟩ := hLq
    refine AW_iload dX2_listSlots_20 rfl ?_
    refine AW_iconst dX2_listSlots_22 ?_
    refine AW_icmp_ge 70 dX2_listSlots_23 (by decide) (by omega) (by omega) (fun h23 => ?_) (fun h23 => ?_)
    · have h4 : cnt (fun b => decide (X (6401 + b) ≤ pl)) 4 = 4 := by
        have := cnt_le (fun b => decide (X (6401 + b) ≤ pl)) 4
        omega
      have hall : ∀ b, b < 4 → X (6401 + b) ≤ pl := fun b hb4 => by
        by_cases q9 : X (6401 + b) ≤ pl
        · exact q9
        · have := cnt_add (p := fun b => decide (X (6401 + b) ≤ pl)) (q := padd (fun b => decide (X (6401 + b) ≤ pl)) b) hb4 (decide_eq_false q9) padd_at (fun x _ hx => (padd_ne (p := fun b => decide (X (6401 + b) ≤ pl)) hx).symm)
          have h5 := cnt_le (padd (fun b => decide (X (6401 + b) ≤ pl)) b) 4
          omega
      refine AW_vret dX2_listSlots_70 rfl ?_
      exact hQ σ hE hout hsc (hLs.ok hc (fun s hs => hall s.2 hs.1.2))
    · refine AW_iload dX2_listSlots_26 rfl ?_
      refine AW_if_lt 70 dX2_listSlots_28 (by decide) (by omega) (fun h28 => ?_) (fun h28 => ?_)
      · have hall : ∀ b, b < 4 → X (6401 + b) ≤ pl := by
          rcases hz with ⟨_, h⟩ | ⟨a, rfl, _⟩
          · exact h
          · omega
        refine AW_vret dX2_listSlots_70 rfl ?_
        exact hQ σ hE hout hsc (hLs.ok hc (fun s hs => hall s.2 hs.1.2))
      · obtain ⟨a, hza, ha, hap, hmin⟩ : ∃ a : Nat, z = a ∧ a < 4 ∧ pl < X (6401 + a) ∧ ∀ b, b < 4 → pl < X (6401 + b) → X (6401 + a) ≤ X (6401 + b) := by
          rcases hz with ⟨rfl, _⟩ | h
          · omega
          · exact h
        subst hza
        have hb := hA.1 a ha
        have hPr : ∀ b, b < 4 → (X (6401 + b) ≤ X (6401 + a) ↔ X (6401 + b) ≤ pl ∨ b = a) := fun b hb4 => by
          constructor
          · intro h
            by_cases e : b = a
            · exact Or.inr e
            · left
              have hd := hA.2 a b ha hb4 (fun z => e z.symm)
              have hb2 := hA.1 b hb4
              by_cases q9 : pl < X (6401 + b)
              · have := hmin b hb4 q9
                omega
              · omega
          · rintro (h | h)
            · omega
            · subst h; exact Int.le_refl _
        have hcn : i + 1 ≤ cnt (fun b => decide (X (6401 + b) ≤ X (6401 + a))) 4 := by
          have := cnt_add (p := fun b => decide (X (6401 + b) ≤ pl)) (q := fun b => decide (X (6401 + b) ≤ X (6401 + a))) ha (decide_eq_false (by omega)) (decide_eq_true (Int.le_refl _)) (fun b hb4 hba => by
            rw [decide_eq_decide]
            rw [hPr b hb4]
            exact ⟨Or.inl, fun h => h.elim id (fun e => absurd e hba)⟩)
          omega
        refine AW_iload dX2_listSlots_31 rfl ?_
        refine AW_iload_n dX2_listSlots_33 rfl ?_
        refine AW_icmp_eq 45 dX2_listSlots_34 (by decide) (by omega) (by omega) (fun h34 => ?_) (fun h34 => ?_)
        · have hSO2 : SOK σ X := hSO.kept hE (by intro x hx; simp at hx; have := hq.2.2.2.2.2.2.2; omega)
          have hLs2 : LsP (gA X w) k (fun s => X (6401 + s.2) ≤ X (6401 + a)) (σ.1 (q + 1)) c := hLs.mono gA_ok (fun s hs hr => (hPr s.2 hs.1.2).mpr (Or.inl hr)) (fun s hs hr => by
            rcases (hPr s.2 hs.1.2).mp hr with h | h
            · exact Or.inl h
            · exfalso
              have h1 := (gA_can hA hs.1.2 hs.1.1 (t := s.1) (a := s.2) (w := w)).mp hs
              exact h1.1 (by rw [h]; omega))
          refine AW_aload_n dX2_listSlots_45 rfl ?_
          refine AW_get dX2_listSlots_46 fX2_69 rfl rfl ?_
          refine AW_aload_n dX2_listSlots_49 rfl ?_
          refine AW_get dX2_listSlots_50 fX2_69 rfl rfl ?_
          refine AW_get dX2_listSlots_53 fX2_82 rfl rfl ?_
          refine AW_iload dX2_listSlots_56 rfl ?_
          refine AW_ialdN (j := a) dX2_listSlots_58 rfl (Nat.le_of_ble_eq_true rfl) (by omega) (by omega) ?_
          rw [(hSO2.2.2 a ha).1]
          refine AW_cVI1 dX2_listSlots_59 kX2_73 (am_fit_b rfl) rfl rfl (Nat.le_of_ble_eq_true rfl) (c_nextAlong hSO2.2.2 hA (by omega)) (fun z2 σ' hq2 => ?_)
          obtain ⟨hs, hz2⟩ := hq2
          subst hs
          refine AW_istore (lv' := [_, _, _, _, _, _]) dX2_listSlots_62 (by decide) (Nat.le_of_ble_eq_true rfl) rfl ?_
          refine AW_iinc (lv' := [_, _, _, _, _, _]) dX2_listSlots_64 rfl (by decide) rfl ?_
          refine AW_goto (tgt := 20) dX2_listSlots_67 (by decide) ?_
          exact ih (by omega) (X (6401 + a)) (by omega) _ σ hE hout hsc ⟨c, hc, hLs2⟩ hcn hz2
        · have hSO1 : SOK σ X := hSO.kept hE (by intro x hx; simp at hx; have := hq.2.2.2.2.2.2.2; omega)
          refine AW_aload_n dX2_listSlots_37 rfl ?_
          refine AW_aload_n dX2_listSlots_38 rfl ?_
          refine AW_iload_n dX2_listSlots_39 rfl ?_
          refine AW_iload dX2_listSlots_40 rfl ?_
          refine AW_cVV3 dX2_listSlots_42 kX2_79 (am_fit_b rfl) hq.1 rfl (Nat.le_of_ble_eq_true rfl) (c_listSlotsOf hq hS hT hA hSO1 hk ha (by omega) hap hc hLs) (fun σ' hq2 => ?_)
          obtain ⟨hE2, hout2, hsc2, c2, hc2, hL2⟩ := hq2
          have hEE : Eqx [q + 1, q + 2] σ0 σ' := hE.tr hE2
          have hSO2 : SOK σ' X := hSO.kept hEE (by intro x hx; simp at hx; have := hq.2.2.2.2.2.2.2; omega)
          have hLs2 : LsP (gA X w) k (fun s => X (6401 + s.2) ≤ X (6401 + a)) (σ'.1 (q + 1)) c2 := hL2.mono gA_ok (fun s hs hr => (hPr s.2 hs.1.2).mpr hr) (fun s hs hr => Or.inl ((hPr s.2 hs.1.2).mp hr))
          refine AW_aload_n dX2_listSlots_45 rfl ?_
          refine AW_get dX2_listSlots_46 fX2_69 rfl rfl ?_
          refine AW_aload_n dX2_listSlots_49 rfl ?_
          refine AW_get dX2_listSlots_50 fX2_69 rfl rfl ?_
          refine AW_get dX2_listSlots_53 fX2_82 rfl rfl ?_
          refine AW_iload dX2_listSlots_56 rfl ?_
          refine AW_ialdN (j := a) dX2_listSlots_58 rfl (Nat.le_of_ble_eq_true rfl) (by omega) (by omega) ?_
          rw [(hSO2.2.2 a ha).1]
          refine AW_cVI1 dX2_listSlots_59 kX2_73 (am_fit_b rfl) rfl rfl (Nat.le_of_ble_eq_true rfl) (c_nextAlong hSO2.2.2 hA (by omega)) (fun z2 σ3 hq3 => ?_)
          obtain ⟨hs, hz2⟩ := hq3
          subst hs
          refine AW_istore (lv' := [_, _, _, _, _, _]) dX2_listSlots_62 (by decide) (Nat.le_of_ble_eq_true rfl) rfl ?_
          refine AW_iinc (lv' := [_, _, _, _, _, _]) dX2_listSlots_64 rfl (by decide) rfl ?_
          refine AW_goto (tgt := 20) dX2_listSlots_67 (by decide) ?_
          exact ih (by omega) (X (6401 + a)) (by omega) _ σ' hEE (fun x hx => (hout2 x hx).trans (hout x hx)) (fun x hx => (hsc2 x hx).trans (hsc x hx)) ⟨c2, hc2, hLs2⟩ hcn hz2)
theorem c_listSlots {X : Row} {q k : Nat} {w : Int} {σ0 : am_S} (hq : PT q) (hS : WS X) (hT : WT X) (hA : WA X) (hSO : SOK σ0 X) (hk : (k : Int) < X 6423) (hw : -10 ≤ w ∧ w ≤ 10) : Runs am_tab mX2_listSlots [vR q, vR 2, vI k, vI w] σ0 (QV (fun σ => Eqx [q + 1, q + 2] σ0 σ ∧ (∀ i, (i < 20 * k ∨ 20 * k + 20 ≤ i) → σ.1 (q + 1) i = σ0.1 (q + 1) i) ∧ (∀ j, j ≠ k → σ.1 (q + 2) j = σ0.1 (q + 2) j) ∧ LsOK (gA X w) k (σ.1 (q + 1)) (σ.1 (q + 2)))) := by
  refine Runs.of (by decide) rfl (by simp) (Nat.le_of_ble_eq_true rfl) ?_
  show AW am_tab mX2_listSlots 0 [some (vR q), some (vR 2), some (vI k), some (vI w), none, none] [] σ0 _
  have hM := hT.1
  refine AW_aload_n dX2_listSlots_0 rfl ?_
  refine AW_get dX2_listSlots_1 fX2_22 hq.1 rfl ?_
  refine AW_iload_n dX2_listSlots_4 rfl ?_
  refine AW_iconst dX2_listSlots_5 ?_
  refine AW_iastN (j := k) dX2_listSlots_6 hq.2.2.1 (Nat.le_of_ble_eq_true rfl) (by omega) (by omega) ?_
  have hE1 : Eqx [q + 1, q + 2] σ0 (am_up σ0 (q + 2) k 0) := Eqx.rf.up (by simp)
  have hSO2 : SOK (am_up σ0 (q + 2) k 0) X := hSO.kept hE1 (by intro x hx; simp at hx; have := hq.2.2.2.2.2.2.2; omega)
  refine AW_aload_n dX2_listSlots_7 rfl ?_
  refine AW_get dX2_listSlots_8 fX2_69 rfl rfl ?_
  refine AW_iconst dX2_listSlots_11 ?_
  refine AW_cVI1 dX2_listSlots_12 kX2_73 (am_fit_b rfl) rfl rfl (Nat.le_of_ble_eq_true rfl) (c_nextAlong hSO2.2.2 hA (by omega)) (fun z σ' hq2 => ?_)
  obtain ⟨hs, hz2⟩ := hq2
  subst hs
  refine AW_istore (lv' := [_, _, _, _, _, _]) dX2_listSlots_15 (by decide) (Nat.le_of_ble_eq_true rfl) rfl ?_
  refine AW_iconst dX2_listSlots_17 ?_
  refine AW_istore (lv' := [_, _, _, _, _, _]) dX2_listSlots_18 (by decide) (Nat.le_of_ble_eq_true rfl) rfl ?_
  refine l_listSlots hq hS hT hA hSO hk hw (fun σ2 h1 h2 h3 h4 => ⟨rfl, h1, h2, h3, h4⟩) 0 (by omega) (-1) (by omega) _ _ hE1 (fun i _ => by rw [am_up_other (by omega)]) (fun j hj => by rw [am_up_same]; exact if_neg hj) ⟨0, by rw [am_up_same]; exact if_pos rfl, ?_⟩ (Nat.zero_le _) hz2
  refine ⟨by omega, fun i hi => absurd hi (Nat.not_lt_zero _), fun i j s s' hij hj => absurd hj (Nat.not_lt_zero _), fun s hs hr => ?_⟩
  have := (hA.1 s.2 hs.1.2).1
  omega
