theorem l_find7i {P : Nat → Prop} {n thing : Nat} {σ0 : am_S} {f : Nat → Option Sl} (hn : n ≤ 20) (hG : ∀ k t, k < n → t ≤ 300 → σ0.1 75 (301 * k + t) = -6 ∨ 0 ≤ σ0.1 75 (301 * k + t) ∧ σ0.1 75 (301 * k + t) < 4) (hZ : ∀ c, c < 1204 → 0 ≤ σ0.1 77 c ∧ σ0.1 77 c ≤ 1) (hC : Con n (σ0.1 76) (σ0.1 81) f) (hM : Mg (bx_Ad (σ0.1 75)) P (bx_Fd (σ0.1 77)) f) (hf0 : f thing = none) (hP0 : P thing) (hth : thing < n) {Q : Option am_V → am_S → Prop} (hyes : (∀ σ, Eqx [76, 79, 80, 81] σ0 σ → More (bx_Ad (σ0.1 75)) P (bx_Fd (σ0.1 77)) n f thing (σ.1 76) (σ.1 81) → Q (some (vI 1)) σ)) (hno : (∀ σ (D : Nat → Prop), Eqx [79, 80] σ0 σ → D thing → (∀ k, D k → P k) → Shut (bx_Ad (σ0.1 75)) (bx_Fd (σ0.1 77)) f D → Q (some (vI 0)) σ)) : ∀ i : Nat, i ≤ n → ∀ (op : Nat) (q : Nat → Nat) (σ : am_S), i ≤ op → Bfs (bx_Ad (σ0.1 75)) (bx_Fd (σ0.1 77)) n f thing σ0 i 0 op q σ → ∀ x4 x5 x6 x7 : Option am_V, AW am_tab mX7_find 34 [some (vR 70), some (vI thing), some (vI op), some (vI i), x4, x5, x6, x7] [] σ Q :=
  up_loop (fun i hi0 ih op q σ hio hB x4 x5 x6 x7 => by
    have hop := q_len hB.2.1.1 hB.2.1.2.2.2.1
    refine AW_iload_n dX7_find_34 rfl ?_
    refine AW_iload_n dX7_find_35 rfl ?_
    refine AW_icmp_ge 175 dX7_find_36 (by decide) (by omega) (by omega) (fun h36 => ?_) (fun h36 => ?_)
    · have e : i = op := by omega
      subst e
      refine AW_iconst dX7_find_175 ?_
      refine AW_zret dX7_find_176 rfl (by first | exact Or.inl rfl | exact Or.inr rfl) ?_
      refine hno σ _ hB.1 ⟨0, hB.2.1.2.2.1, hB.2.1.2.1⟩ (fun k hk => ?_) hB.shut
      obtain ⟨j, hj, rfl⟩ := hk
      rcases Nat.eq_zero_or_pos j with z | z
      · subst z; rw [hB.2.1.2.1]; exact hP0
      · obtain ⟨s, hs, _⟩ := hB.2.1.2.2.2.2.1 j z hj
        exact (hM.1 _ _ hs).1
    · refine AW_aload_n dX7_find_39 rfl ?_
      refine AW_get dX7_find_40 fX7_35 rfl rfl ?_
      refine AW_iload_n dX7_find_43 rfl ?_
      refine AW_ialdN (j := i) dX7_find_44 rfl (Nat.le_of_ble_eq_true rfl) (by omega) (by omega) ?_
      rw [hB.2.2.1 i (by omega)]
      refine AW_istore (lv' := [_, _, _, _, _, _, _, _]) dX7_find_45 (by decide) (Nat.le_of_ble_eq_true rfl) rfl ?_
      refine AW_iconst dX7_find_47 ?_
      refine AW_istore (lv' := [_, _, _, _, _, _, _, _]) dX7_find_48 (by decide) (Nat.le_of_ble_eq_true rfl) rfl ?_
      refine l_find7t hn hG hZ hC hM hf0 hP0 hth hyes (fun op2 q2 σ2 hB2 hi2 x6 y6 => ?_) 0 (by omega) op q σ hB (by omega) _ _
      refine AW_iinc (lv' := [_, _, _, _, _, _, _, _]) dX7_find_169 rfl (by decide) rfl ?_
      refine AW_goto (tgt := 34) dX7_find_172 (by decide) ?_
      have hop2 := q_len hB2.2.1.1 hB2.2.1.2.2.2.1
      exact ih (by omega) op2 q2 σ2 (by omega) hB2.next _ _ _ _)
theorem l_find7w {σ : am_S} {thing : Nat} {Q : Option am_V → am_S → Prop} (hk2 : AW am_tab mX7_find 23 [some (vR 70), some (vI thing), some (vI (1204 : Nat)), none, none, none, none, none] [] (am_row σ 80 1204 (fun _ => -6)) Q) : ∀ i : Nat, i ≤ 1204 → AW am_tab mX7_find 2 [some (vR 70), some (vI thing), some (vI i), none, none, none, none, none] [] (am_row σ 80 i (fun _ => -6)) Q :=
  up_loop (fun i hi ih => by
    refine AW_iload_n dX7_find_2 rfl ?_
    refine AW_sipush dX7_find_3 (by decide) ?_
    refine AW_icmp_ge 23 dX7_find_6 (by decide) (by omega) (by omega) (fun h6 => ?_) (fun h6 => ?_)
    · have e : i = 1204 := by omega
      subst e
      exact hk2
    · refine AW_aload_n dX7_find_9 rfl ?_
      refine AW_get dX7_find_10 fX7_38 rfl rfl ?_
      refine AW_iload_n dX7_find_13 rfl ?_
      refine AW_bipush dX7_find_14 (by decide) ?_
      refine AW_iastN (j := i) dX7_find_16 rfl (Nat.le_of_ble_eq_true rfl) (by omega) (by omega) ?_
      refine AW_iinc (lv' := [_, _, _, _, _, _, _, _]) dX7_find_17 rfl (by decide) rfl ?_
      refine AW_goto (tgt := 2) dX7_find_20 (by decide) ?_
      rw [am_row_s (g := fun _ => -6) rfl]
      exact ih (by omega))
theorem c_find7 {P : Nat → Prop} {n thing : Nat} {σ : am_S} {f : Nat → Option Sl} (hn : n ≤ 20) (hG : ∀ k t, k < n → t ≤ 300 → σ.1 75 (301 * k + t) = -6 ∨ 0 ≤ σ.1 75 (301 * k + t) ∧ σ.1 75 (301 * k + t) < 4) (hZ : ∀ c, c < 1204 → 0 ≤ σ.1 77 c ∧ σ.1 77 c ≤ 1) (hC : Con n (σ.1 76) (σ.1 81) f) (hM : Mg (bx_Ad (σ.1 75)) P (bx_Fd (σ.1 77)) f) (hf0 : f thing = none) (hP0 : P thing) (hth : thing < n) : Runs am_tab mX7_find [vR 70, vI thing] σ (QI (fun z σ' => (z = 1 ∧ Eqx [76, 79, 80, 81] σ σ' ∧ More (bx_Ad (σ.1 75)) P (bx_Fd (σ.1 77)) n f thing (σ'.1 76) (σ'.1 81)) ∨ (z = 0 ∧ Eqx [79, 80] σ σ' ∧ ∃ D : Nat → Prop, D thing ∧ (∀ k, D k → P k) ∧ Shut (bx_Ad (σ.1 75)) (bx_Fd (σ.1 77)) f D))) := by
  refine Runs.of (by decide) rfl (by simp) (Nat.le_of_ble_eq_true rfl) ?_
  show AW am_tab mX7_find 0 [some (vR 70), some (vI thing), none, none, none, none, none, none] [] σ _
  refine AW_iconst dX7_find_0 ?_
  refine AW_istore_n (i := 2) (lv' := [_, _, _, _, _, _, _, _]) dX7_find_1 rfl (by decide) (Nat.le_of_ble_eq_true rfl) rfl ?_
  suffices hs : AW am_tab mX7_find 23 [some (vR 70), some (vI thing), some (vI (1204 : Nat)), none, none, none, none, none] [] (am_row σ 80 1204 (fun _ => -6)) _ by
    have h9 := l_find7w hs 0 (by omega)
    rw [am_row_0] at h9
    exact h9
  refine AW_iconst dX7_find_23 ?_
  refine AW_istore_n (i := 2) (lv' := [_, _, _, _, _, _, _, _]) dX7_find_24 rfl (by decide) (Nat.le_of_ble_eq_true rfl) rfl ?_
  refine AW_aload_n dX7_find_25 rfl ?_
  refine AW_get dX7_find_26 fX7_35 rfl rfl ?_
  refine AW_iconst dX7_find_29 ?_
  refine AW_iload_n dX7_find_30 rfl ?_
  refine AW_iastN (j := 0) dX7_find_31 rfl (Nat.le_of_ble_eq_true rfl) (by omega) (by omega) ?_
  refine AW_iconst dX7_find_32 ?_
  refine AW_istore_n (i := 3) (lv' := [_, _, _, _, _, _, _, _]) dX7_find_33 rfl (by decide) (Nat.le_of_ble_eq_true rfl) rfl ?_
  have hB : Bfs (bx_Ad (σ.1 75)) (bx_Fd (σ.1 77)) n f thing σ 0 0 1 (fun _ => thing) (am_up (am_row σ 80 1204 (fun _ => -6)) 79 0 thing) := by
    have r80 : (am_up (am_row σ 80 1204 (fun _ => -6)) 79 0 thing).1 80 = (am_row σ 80 1204 (fun _ => -6)).1 80 := am_up_other (by decide)
    refine ⟨(Eqx.rf.row (by decide)).up (by decide), ⟨fun i j hi hj _ => by omega, rfl, by omega, fun _ _ => hth, fun j h0 hj => by omega, fun c hc => ?_⟩, fun j hj => ?_, fun c hc h => ?_, fun j s hj h => by omega⟩
    · rw [r80, am_row_at hc]; exact Or.inl rfl
    · rw [am_up_same, show j = 0 by omega]; exact if_pos rfl
    · rw [r80, am_row_at hc] at h; exact absurd rfl h
  exact l_find7i hn hG hZ hC hM hf0 hP0 hth (fun σ' h1 h2 => ⟨1, rfl, Or.inl ⟨rfl, h1, h2⟩⟩) (fun σ' D h1 h2 h3 h4 => ⟨0, rfl, Or.inr ⟨rfl, h1, D, h2, h3, h4⟩⟩) 0 (by omega) 1 (fun _ => thing) _ (by omega) hB _ _ _ _
theorem l_clear7a {σ : am_S} {Q : Option am_V → am_S → Prop} (hk2 : AW am_tab mX7_clear 22 [some (vR 70), some (vI (1204 : Nat))] [] (am_row σ 77 1204 (fun _ => 0)) Q) : ∀ i : Nat, i ≤ 1204 → AW am_tab mX7_clear 2 [some (vR 70), some (vI i)] [] (am_row σ 77 i (fun _ => 0)) Q :=
  up_loop (fun i hi ih => by
    refine AW_iload_n dX7_clear_2 rfl ?_
    refine AW_sipush dX7_clear_3 (by decide) ?_
    refine AW_icmp_ge 22 dX7_clear_6 (by decide) (by omega) (by omega) (fun h6 => ?_) (fun h6 => ?_)
    · have e : i = 1204 := by omega
      subst e
      exact hk2
    · refine AW_aload_n dX7_clear_9 rfl ?_
      refine AW_get dX7_clear_10 fX7_29 rfl rfl ?_
      refine AW_iload_n dX7_clear_13 rfl ?_
      refine AW_iconst dX7_clear_14 ?_
      refine AW_zastN (j := i) dX7_clear_15 rfl (Nat.le_of_ble_eq_true rfl) (by omega) (by omega) (by first | exact Or.inl rfl | exact Or.inr rfl) ?_
      refine AW_iinc (lv' := [_, _]) dX7_clear_16 rfl (by decide) rfl ?_
      refine AW_goto (tgt := 2) dX7_clear_19 (by decide) ?_
      rw [am_row_s (g := fun _ => 0) rfl]
      exact ih (by omega))
theorem l_clear7b {σ : am_S} {Q : Option am_V → am_S → Prop} (hQ : Q none (am_row σ 78 20 (fun _ => 0))) : ∀ i : Nat, i ≤ 20 → AW am_tab mX7_clear 24 [some (vR 70), some (vI i)] [] (am_row σ 78 i (fun _ => 0)) Q :=
  up_loop (fun i hi ih => by
    refine AW_iload_n dX7_clear_24 rfl ?_
    refine AW_bipush dX7_clear_25 (by decide) ?_
    refine AW_icmp_ge 43 dX7_clear_27 (by decide) (by omega) (by omega) (fun h27 => ?_) (fun h27 => ?_)
    · refine AW_vret dX7_clear_43 rfl ?_
      have e : i = 20 := by omega
      subst e
      exact hQ
    · refine AW_aload_n dX7_clear_30 rfl ?_
      refine AW_get dX7_clear_31 fX7_32 rfl rfl ?_
      refine AW_iload_n dX7_clear_34 rfl ?_
      refine AW_iconst dX7_clear_35 ?_
      refine AW_zastN (j := i) dX7_clear_36 rfl (Nat.le_of_ble_eq_true rfl) (by omega) (by omega) (by first | exact Or.inl rfl | exact Or.inr rfl) ?_
      refine AW_iinc (lv' := [_, _]) dX7_clear_37 rfl (by decide) rfl ?_
      refine AW_goto (tgt := 24) dX7_clear_40 (by decide) ?_
      rw [am_row_s (g := fun _ => 0) rfl]
      exact ih (by omega))
theorem c_clear7 {σ : am_S} : Runs am_tab mX7_clear [vR 70] σ (QV (fun σ' => σ' = am_row (am_row σ 77 1204 (fun _ => 0)) 78 20 (fun _ => 0))) := by
  refine Runs.of (by decide) rfl (by simp) (Nat.le_of_ble_eq_true rfl) ?_
  show AW am_tab mX7_clear 0 [some (vR 70), none] [] σ _
  refine AW_iconst dX7_clear_0 ?_
  refine AW_istore_n (i := 1) (lv' := [_, _]) dX7_clear_1 rfl (by decide) (Nat.le_of_ble_eq_true rfl) rfl ?_
  suffices hs : AW am_tab mX7_clear 22 [some (vR 70), some (vI (1204 : Nat))] [] (am_row σ 77 1204 (fun _ => 0)) _ by
    have h9 := l_clear7a hs 0 (by omega)
    rw [am_row_0] at h9
    exact h9
  refine AW_iconst dX7_clear_22 ?_
  refine AW_istore_n (i := 1) (lv' := [_, _]) dX7_clear_23 rfl (by decide) (Nat.le_of_ble_eq_true rfl) rfl ?_
  have h9 := l_clear7b (σ := am_row σ 77 1204 (fun _ => 0)) (Q := QV (fun σ' => σ' = am_row (am_row σ 77 1204 (fun _ => 0)) 78 20 (fun _ => 0))) ⟨rfl, rfl⟩ 0 (by omega)
  rw [am_row_0] at h9
  exact h9
