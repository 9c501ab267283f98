/-- the SPEED at a TICK, by the CHANGES begun -/
theorem belt_speed {X : Row} {fs c : Int} {tk sp : Row} (h : BeltOK X fs c tk sp) {t m : Nat} (ht : t ≤ 300) (hm : (m : Int) ≤ c) (h1m : ∀ i, i < m → tk i ≤ t) (h2m : ∀ i : Nat, m ≤ i → (i : Int) < c → (t : Int) < tk i) : spAt X t = if m = 0 then fs else sp (m - 1) := by
  obtain ⟨h1, h2, h3, h4, h5, h6, h7⟩ := h
  have hno : ∀ u : Nat, 1 ≤ u → u ≤ t → (∀ i, i < m → tk i < u) → X u < 0 := by
    intro u u1 u2 u3
    by_cases q : X u < 0
    · exact q
    · obtain ⟨i, hi, hti⟩ := h7 u u1 (by omega) (by omega)
      by_cases r : i < m
      · have := u3 i r; omega
      · have := h2m i (by omega) hi; omega
  by_cases e : m = 0
  · subst e
    rw [if_pos rfl, h1]
    exact spAt_last (t0 := 0) (Or.inl rfl) t (Nat.zero_le _) (fun u u1 u2 => hno u u1 u2 (fun i hi => absurd hi (Nat.not_lt_zero _)))
  · rw [if_neg e]
    have g1 := h4 (m - 1) (by omega)
    have g2 := h1m (m - 1) (by omega)
    have g3 := h6 (m - 1) (by omega)
    have g4 := (h3 (m - 1) (by omega)).2
    rw [← g3]
    refine spAt_last (t0 := (tk (m - 1)).toNat) (Or.inr (by omega)) t (by omega) (fun u u1 u2 => hno u (by omega) u2 (fun i hi => ?_))
    by_cases z : i = m - 1
    · subst z; omega
    · have := h5 i (m - 1) (by omega) (by omega); omega
theorem c_speedAt {σ : am_S} {X : Row} (hB : BO σ X) {t : Nat} (ht : t ≤ 300) : Runs am_tab mX1_speedAt [vR 3, vI t] σ (QI (fun z σ' => z = spAt X t ∧ σ' = σ)) := by
  refine Runs.of (by decide) rfl (by simp) (Nat.le_of_ble_eq_true rfl) ?_
  show AW am_tab mX1_speedAt 0 [some (vR 3), some (vI t), none] [] σ _
  refine AW_aload_n dX1_speedAt_0 rfl ?_
  refine AW_iload_n dX1_speedAt_1 rfl ?_
  refine AW_cVI1 dX1_speedAt_2 kX1_37 (am_fit_b rfl) rfl rfl (Nat.le_of_ble_eq_true rfl) (c_begunBy hB (by omega)) (fun z σ' hq => ?_)
  obtain ⟨rfl, m, rfl, hm1, hm2, hm3⟩ := hq
  refine AW_istore_n (i := 2) (lv' := [_, _, _]) dX1_speedAt_5 rfl (by decide) (Nat.le_of_ble_eq_true rfl) rfl ?_
  have hc := hB.2.1
  have hbs := belt_speed hB ht hm1 hm2 hm3
  refine AW_iload_n dX1_speedAt_6 rfl ?_
  refine AW_if_ne 17 dX1_speedAt_7 (by decide) (by omega) (fun h7 => ?_) (fun h7 => ?_)
  · refine AW_aload_n dX1_speedAt_17 rfl ?_
    refine AW_get dX1_speedAt_18 fX1_22 rfl rfl ?_
    refine AW_iload_n dX1_speedAt_21 rfl ?_
    refine AW_iconst dX1_speedAt_22 ?_
    refine AW_isub dX1_speedAt_23 ?_
    refine AW_ialdN (j := m - 1) dX1_speedAt_24 rfl (Nat.le_of_ble_eq_true rfl) (by omega) (by omega) ?_
    refine AW_iret dX1_speedAt_25 rfl ?_
    refine ⟨_, rfl, ?_, rfl⟩
    rw [hbs]
    first
    | (rw [if_pos (by omega)])
    | (rw [if_neg (by omega)])
  · refine AW_aload_n dX1_speedAt_10 rfl ?_
    refine AW_get dX1_speedAt_11 fX1_9 rfl rfl ?_
    refine AW_goto (tgt := 25) dX1_speedAt_14 (by decide) ?_
    refine AW_iret dX1_speedAt_25 rfl ?_
    refine ⟨_, rfl, ?_, rfl⟩
    rw [hbs]
    first
    | (rw [if_pos (by omega)])
    | (rw [if_neg (by omega)])
theorem c_changeAt {σ : am_S} {X : Row} (hB : BO σ X) {tick : Int} (htick : -2147483648 ≤ tick ∧ tick < 2147483648) : Runs am_tab mX1_changeAt [vR 3, vI tick] σ (QI (fun z σ' => σ = σ' ∧ ((∃ i : Nat, z = i ∧ (i : Int) < σ.1 3 1 ∧ σ.1 4 i = tick) ∨ (z = -1 ∧ ∀ i : Nat, (i : Int) < σ.1 3 1 → σ.1 4 i ≠ tick)))) := by
  refine Runs.of (by decide) rfl (by simp) (Nat.le_of_ble_eq_true rfl) ?_
  show AW am_tab mX1_changeAt 0 [some (vR 3), some (vI tick), none] [] σ _
  refine AW_aload_n dX1_changeAt_0 rfl ?_
  refine AW_iload_n dX1_changeAt_1 rfl ?_
  refine AW_cVI1 dX1_changeAt_2 kX1_37 (am_fit_b rfl) rfl rfl (Nat.le_of_ble_eq_true rfl) (c_begunBy hB (by omega)) (fun z σ' hq => ?_)
  obtain ⟨rfl, m, rfl, hm1, hm2, hm3⟩ := hq
  refine AW_iconst dX1_changeAt_5 ?_
  refine AW_isub dX1_changeAt_6 ?_
  refine AW_istore_n (i := 2) (lv' := [_, _, _]) dX1_changeAt_7 rfl (by decide) (Nat.le_of_ble_eq_true rfl) rfl ?_
  have hc := hB.2.1
  refine AW_iload_n dX1_changeAt_8 rfl ?_
  refine AW_if_lt 26 dX1_changeAt_9 (by decide) (by omega) (fun h9 => ?_) (fun h9 => ?_)
  · refine AW_iconst dX1_changeAt_26 ?_
    refine AW_iret dX1_changeAt_27 rfl ?_
    refine ⟨_, rfl, rfl, ?_⟩
    first
    | (refine Or.inl ⟨m - 1, by omega, by omega, by omega⟩)
    | (refine Or.inr ⟨rfl, fun i hi => ?_⟩
       by_cases r : i < m
       · by_cases z : i = m - 1
         · subst z; omega
         · have := hB.2.2.2.2.1 i (m - 1) (by omega) (by omega)
           have := hm2 (m - 1) (by omega)
           omega
       · have := hm3 i (by omega) hi
         omega)
  · refine AW_aload_n dX1_changeAt_12 rfl ?_
    refine AW_get dX1_changeAt_13 fX1_18 rfl rfl ?_
    refine AW_iload_n dX1_changeAt_16 rfl ?_
    refine AW_ialdN (j := m - 1) dX1_changeAt_17 rfl (Nat.le_of_ble_eq_true rfl) (by omega) (by omega) ?_
    have htb := hB.2.2.1 (m - 1) (by omega)
    refine AW_iload_n dX1_changeAt_18 rfl ?_
    refine AW_icmp_ne 26 dX1_changeAt_19 (by decide) (by omega) (by omega) (fun h19 => ?_) (fun h19 => ?_)
    · refine AW_iconst dX1_changeAt_26 ?_
      refine AW_iret dX1_changeAt_27 rfl ?_
      refine ⟨_, rfl, rfl, ?_⟩
      first
      | (refine Or.inl ⟨m - 1, by omega, by omega, by omega⟩)
      | (refine Or.inr ⟨rfl, fun i hi => ?_⟩
         by_cases r : i < m
         · by_cases z : i = m - 1
           · subst z; omega
           · have := hB.2.2.2.2.1 i (m - 1) (by omega) (by omega)
             have := hm2 (m - 1) (by omega)
             omega
         · have := hm3 i (by omega) hi
           omega)
    · refine AW_iload_n dX1_changeAt_22 rfl ?_
      refine AW_goto (tgt := 27) dX1_changeAt_23 (by decide) ?_
      refine AW_iret dX1_changeAt_27 rfl ?_
      refine ⟨_, rfl, rfl, ?_⟩
      first
      | (refine Or.inl ⟨m - 1, by omega, by omega, by omega⟩)
      | (refine Or.inr ⟨rfl, fun i hi => ?_⟩
         by_cases r : i < m
         · by_cases z : i = m - 1
           · subst z; omega
           · have := hB.2.2.2.2.1 i (m - 1) (by omega) (by omega)
             have := hm2 (m - 1) (by omega)
             omega
         · have := hm3 i (by omega) hi
           omega)
def shU (f : Row) (i c : Nat) : Row := fun j => if i < j ∧ j ≤ c then f (j - 1) else f j
theorem shU_s {f : Row} {i c : Nat} (h : i + 1 ≤ c) : rup (shU f (i + 1) c) (i + 1) (shU f (i + 1) c i) = shU f i c := by
  funext j
  simp only [rup, shU]
  by_cases e : j = i + 1
  · subst e
    rw [if_pos rfl, if_neg (by omega), if_pos (by omega)]
    rfl
  · rw [if_neg e]
    by_cases q : i + 1 < j ∧ j ≤ c
    · rw [if_pos q, if_pos (by omega)]
    · rw [if_neg q, if_neg (by omega)]
theorem shU_c {f : Row} {c : Nat} : shU f c c = f := by
  funext j
  simp only [shU]
  rw [if_neg (by omega)]
theorem shU_ins {f : Row} {a c : Nat} {x : Int} : rup (shU f a c) a x = insR f a c x := by
  funext j
  simp only [rup, shU, insR]
  by_cases e : j = a
  · rw [if_pos e, if_neg (by omega), if_pos e]
  · rw [if_neg e]
    by_cases q : j < a
    · rw [if_neg (by omega), if_pos q]
    · rw [if_neg q, if_neg e]
      by_cases r : j ≤ c
      · rw [if_pos (by omega), if_pos r]
      · rw [if_neg (by omega), if_neg r]
theorem l_insert {σ0 : am_S} {a c : Nat} {tick sp : Int} (hc : c < 8) {Q : Option am_V → am_S → Prop} (hk2 : ∀ σ, Eqx [4, 5] σ0 σ → σ.1 4 = shU (σ0.1 4) a c → σ.1 5 = shU (σ0.1 5) a c → AW am_tab mX1_insert 50 [some (vR 3), some (vI (a : Nat)), some (vI tick), some (vI sp), some (vI (a : Nat))] [] σ Q) : ∀ d i : Nat, i = a + d → i ≤ c → ∀ σ : am_S, Eqx [4, 5] σ0 σ → σ.1 4 = shU (σ0.1 4) i c → σ.1 5 = shU (σ0.1 5) i c → AW am_tab mX1_insert 6 [some (vR 3), some (vI (a : Nat)), some (vI tick), some (vI sp), some (vI (i : Nat))] [] σ Q := by
  intro d
  induction d with
  | zero =>
    intro i hi hic σ hE h4 h5
    rw [Nat.add_zero] at hi
    subst hi
    refine AW_iload dX1_insert_6 rfl ?_
    refine AW_iload_n dX1_insert_8 rfl ?_
    refine AW_icmp_le 50 dX1_insert_9 (by decide) (by omega) (by omega) (fun h9 => ?_) (fun h9 => ?_)
    · exact hk2 σ hE h4 h5
    · exfalso
      omega
  | succ d ihd =>
    intro i0 hi0 hic σ hE h4 h5
    obtain ⟨i, rfl⟩ : ∃ i, i0 = i + 1 := ⟨a + d, by omega⟩
    have ih : i < c → ∀ σ : am_S, Eqx [4, 5] σ0 σ → σ.1 4 = shU (σ0.1 4) i c → σ.1 5 = shU (σ0.1 5) i c → AW am_tab mX1_insert 6 [some (vR 3), some (vI (a : Nat)), some (vI tick), some (vI sp), some (vI (i : Nat))] [] σ Q := fun _ => ihd i (by omega) (by omega)
    refine AW_iload dX1_insert_6 rfl ?_
    refine AW_iload_n dX1_insert_8 rfl ?_
    refine AW_icmp_le 50 dX1_insert_9 (by decide) (by omega) (by omega) (fun h9 => ?_) (fun h9 => ?_)
    · exfalso
      omega
    · refine AW_aload_n dX1_insert_12 rfl ?_
      refine AW_get dX1_insert_13 fX1_18 rfl rfl ?_
      refine AW_iload dX1_insert_16 rfl ?_
      refine AW_aload_n dX1_insert_18 rfl ?_
      refine AW_get dX1_insert_19 fX1_18 rfl rfl ?_
      refine AW_iload dX1_insert_22 rfl ?_
      refine AW_iconst dX1_insert_24 ?_
      refine AW_isub dX1_insert_25 ?_
      refine AW_ialdN (j := i) dX1_insert_26 rfl (Nat.le_of_ble_eq_true rfl) (by omega) (by omega) ?_
      refine AW_iastN (j := i + 1) dX1_insert_27 rfl (Nat.le_of_ble_eq_true rfl) (by omega) (by omega) ?_
      refine AW_aload_n dX1_insert_28 rfl ?_
      refine AW_get dX1_insert_29 fX1_22 rfl rfl ?_
      refine AW_iload dX1_insert_32 rfl ?_
      refine AW_aload_n dX1_insert_34 rfl ?_
      refine AW_get dX1_insert_35 fX1_22 rfl rfl ?_
      refine AW_iload dX1_insert_38 rfl ?_
      refine AW_iconst dX1_insert_40 ?_
      refine AW_isub dX1_insert_41 ?_
      refine AW_ialdN (j := i) dX1_insert_42 rfl (Nat.le_of_ble_eq_true rfl) (by omega) (by omega) ?_
      refine AW_iastN (j := i + 1) dX1_insert_43 rfl (Nat.le_of_ble_eq_true rfl) (by omega) (by omega) ?_
      refine AW_iinc (lv' := [_, _, _, _, _]) dX1_insert_44 rfl (by decide) rfl ?_
      refine AW_goto (tgt := 6) dX1_insert_47 (by decide) ?_
      have e4 : (am_up (am_up σ 4 (i + 1) (σ.1 4 i)) 5 (i + 1) ((am_up σ 4 (i + 1) (σ.1 4 i)).1 5 i)).1 4 = shU (σ0.1 4) i c := by
        rw [am_up_other (by decide), am_up_same, h4, shU_s (by omega)]
      have e5 : (am_up (am_up σ 4 (i + 1) (σ.1 4 i)) 5 (i + 1) ((am_up σ 4 (i + 1) (σ.1 4 i)).1 5 i)).1 5 = shU (σ0.1 5) i c := by
        rw [am_up_same, am_up_other (by decide), h5, shU_s (by omega)]
      rw [show ((i + 1 : Nat) : Int) + (-1) = (i : Int) by omega]
      exact ih (by omega) _ ((hE.up (by decide)).up (by decide)) e4 e5
theorem c_insert {σ : am_S} {a c : Nat} {tick sp : Int} (hc : c < 8) (hac : a ≤ c) (hcc : σ.1 3 1 = (c : Nat)) : Runs am_tab mX1_insert [vR 3, vI a, vI tick, vI sp] σ (QV (fun σ' => Eqx [3, 4, 5] σ σ' ∧ σ'.1 4 = insR (σ.1 4) a c tick ∧ σ'.1 5 = insR (σ.1 5) a c sp ∧ σ'.1 3 0 = σ.1 3 0 ∧ σ'.1 3 1 = (c : Int) + 1)) := by
  refine Runs.of (by decide) rfl (by simp) (Nat.le_of_ble_eq_true rfl) ?_
  show AW am_tab mX1_insert 0 [some (vR 3), some (vI a), some (vI tick), some (vI sp), none] [] σ _
  refine AW_aload_n dX1_insert_0 rfl ?_
  refine AW_get dX1_insert_1 fX1_15 rfl rfl ?_
  refine AW_istore (lv' := [_, _, _, _, _]) dX1_insert_4 (by decide) (Nat.le_of_ble_eq_true rfl) rfl ?_
  rw [hcc]
  refine l_insert (σ0 := σ) (a := a) (c := c) hc (fun σ2 hE h4 h5 => ?_) (c - a) c (by omega) (Nat.le_refl _) σ Eqx.rf shU_c.symm shU_c.symm
  refine AW_aload_n dX1_insert_50 rfl ?_
  refine AW_get dX1_insert_51 fX1_18 rfl rfl ?_
  refine AW_iload_n dX1_insert_54 rfl ?_
  refine AW_iload_n dX1_insert_55 rfl ?_
  refine AW_iastN (j := a) dX1_insert_56 rfl (Nat.le_of_ble_eq_true rfl) (by omega) (by omega) ?_
  refine AW_aload_n dX1_insert_57 rfl ?_
  refine AW_get dX1_insert_58 fX1_22 rfl rfl ?_
  refine AW_iload_n dX1_insert_61 rfl ?_
  refine AW_iload_n dX1_insert_62 rfl ?_
  refine AW_iastN (j := a) dX1_insert_63 rfl (Nat.le_of_ble_eq_true rfl) (by omega) (by omega) ?_
  refine AW_aload_n dX1_insert_64 rfl ?_
  first | refine AW_dupR dX1_insert_65 ?_ | refine AW_dupI dX1_insert_65 ?_
  refine AW_get dX1_insert_66 fX1_15 rfl rfl ?_
  refine AW_iconst dX1_insert_69 ?_
  refine AW_iadd dX1_insert_70 ?_
  refine AW_put dX1_insert_71 pX1_15 rfl rfl rfl rfl ?_
  refine AW_vret dX1_insert_74 rfl ?_
  have r3 : (am_up (am_up σ2 4 a tick) 5 a sp).1 3 = σ.1 3 := by rw [am_up_other (by decide), am_up_other (by decide), hE.1 3 (by decide)]
  refine ⟨rfl, ((((hE.mono (by decide)).up (by decide)).up (by decide)).up (by decide)), ?_, ?_, ?_, ?_⟩
  · rw [am_up_other (by decide), am_up_other (by decide), am_up_same, h4, shU_ins]
  · rw [am_up_other (by decide), am_up_same, am_up_other (by decide), h5, shU_ins]
  · rw [am_up_same, r3]; exact if_neg (by decide)
  · rw [am_up_same, r3, hcc]; exact if_pos rfl
