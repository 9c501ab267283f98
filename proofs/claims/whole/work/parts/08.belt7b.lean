theorem up_loop {N : Nat} {P : Nat → Prop} (h : ∀ i, i ≤ N → (i < N → P (i + 1)) → P i) (i : Nat) (hi : i ≤ N) : P i := by
  have : ∀ n i, i ≤ N → N - i ≤ n → P i := by
    intro n
    induction n with
    | zero => intro i h1 h2; exact h i h1 (fun h3 => by omega)
    | succ n ih => intro i h1 h2; exact h i h1 (fun h3 => ih (i + 1) (by omega) (by omega))
  exact this (N - i) i hi (Nat.le_refl _)
/-- what a call of the reference leaves: its row X', its own scratch rows aside all else as before -/
def MS (σ σ' : am_S) (X' : Row) : Prop := σ'.1 71 = X' ∧ (∀ a, a < 70 ∨ a = 72 ∨ a = 73 → σ'.1 a = σ.1 a) ∧ σ'.2 = σ.2
theorem MS.rf {σ : am_S} : MS σ σ (σ.1 71) := ⟨rfl, fun _ _ => rfl, rfl⟩
theorem MS.row {σ σ' : am_S} {X' : Row} (h : MS σ σ' X') {a n : Nat} {g : Row} (ha : 74 ≤ a) : MS σ (am_row σ' a n g) X' := ⟨by rw [am_row_other (by omega)]; exact h.1, fun b hb => by rw [am_row_other (by omega)]; exact h.2.1 b hb, h.2.2⟩
theorem MS.up {σ σ' : am_S} {X' : Row} (h : MS σ σ' X') {a j : Nat} {x : Int} (ha : 74 ≤ a ∨ a = 70) : MS σ (am_up σ' a j x) X' := ⟨by rw [am_up_other (by omega)]; exact h.1, fun b hb => by rw [am_up_other (by omega)]; exact h.2.1 b hb, h.2.2⟩
theorem MS.set {σ σ' : am_S} {X' : Row} (h : MS σ σ' X') {j : Nat} {x : Int} : MS σ (am_up σ' 71 j x) (rup X' j x) := ⟨by rw [am_up_same, h.1], fun b hb => by rw [am_up_other (by omega)]; exact h.2.1 b hb, h.2.2⟩
theorem MS.tr {σ σ' σ'' : am_S} {X' X'' : Row} (h : MS σ σ' X') (h2 : MS σ' σ'' X'') : MS σ σ'' X'' := ⟨h2.1, fun a ha => (h2.2.1 a ha).trans (h.2.1 a ha), h2.2.2.trans h.2.2⟩
theorem l_layGone7 {σ : am_S} (hW : WS (σ.1 71)) {Q : Option am_V → am_S → Prop} (hQ : Q none (am_row σ 74 301 (gn (σ.1 71)))) : ∀ i, i ≤ 300 → AW am_tab mX7_layGone 9 [some (vR 70), some (vI (i + 1 : Nat))] [] (am_row σ 74 (i + 1) (gn (σ.1 71))) Q :=
  up_loop (fun i hi ih => by
    refine AW_iload_n dX7_layGone_9 rfl ?_
    refine AW_sipush dX7_layGone_10 (by decide) ?_
    refine AW_icmp_ge 44 dX7_layGone_13 (by decide) (by omega) (by omega) (fun h13 => ?_) (fun h13 => ?_)
    · refine AW_vret dX7_layGone_44 rfl ?_
      have e : i = 300 := by omega
      subst e
      exact hQ
    · refine AW_aload_n dX7_layGone_16 rfl ?_
      refine AW_get dX7_layGone_17 fX7_20 rfl rfl ?_
      refine AW_iload_n dX7_layGone_20 rfl ?_
      refine AW_aload_n dX7_layGone_21 rfl ?_
      refine AW_get dX7_layGone_22 fX7_20 rfl rfl ?_
      refine AW_iload_n dX7_layGone_25 rfl ?_
      refine AW_iconst dX7_layGone_26 ?_
      refine AW_isub dX7_layGone_27 ?_
      refine AW_ialdN (j := i) dX7_layGone_28 rfl (Nat.le_of_ble_eq_true rfl) (by omega) (by omega) ?_
      refine AW_aload_n dX7_layGone_29 rfl ?_
      refine AW_iload_n dX7_layGone_30 rfl ?_
      refine AW_iconst dX7_layGone_31 ?_
      refine AW_isub dX7_layGone_32 ?_
      rw [show ((i + 1 : Nat) : Int) - 1 = (i : Int) by omega]
      refine AW_cVI1 dX7_layGone_33 kX7_68 (am_fit_b rfl) rfl rfl (Nat.le_of_ble_eq_true rfl) (c_speedAt7 (t := i) (by rw [am_row_other (by decide)]; exact hW) (by omega)) (fun z σ' hq => ?_)
      obtain ⟨hz, rfl⟩ := hq
      rw [am_row_other (by decide)] at hz
      subst hz
      refine AW_iadd dX7_layGone_36 ?_
      refine AW_iastN (j := i + 1) dX7_layGone_37 rfl (Nat.le_of_ble_eq_true rfl) (by omega) (by omega) ?_
      refine AW_iinc (lv' := [_, _]) dX7_layGone_38 rfl (by decide) rfl ?_
      refine AW_goto (tgt := 9) dX7_layGone_41 (by decide) ?_
      rw [am_row_s (by rw [am_row_at (by omega)]; rfl)]
      exact ih (by omega))
theorem c_layGone7 {σ : am_S} (hW : WS (σ.1 71)) : Runs am_tab mX7_layGone [vR 70] σ (QV (fun σ' => σ' = am_row σ 74 301 (gn (σ.1 71)))) := by
  refine Runs.of (by decide) rfl (by simp) (Nat.le_of_ble_eq_true rfl) ?_
  show AW am_tab mX7_layGone 0 [some (vR 70), none] [] σ _
  refine AW_aload_n dX7_layGone_0 rfl ?_
  refine AW_get dX7_layGone_1 fX7_20 rfl rfl ?_
  refine AW_iconst dX7_layGone_4 ?_
  refine AW_iconst dX7_layGone_5 ?_
  refine AW_iastN (j := 0) dX7_layGone_6 rfl (Nat.le_of_ble_eq_true rfl) (by omega) (by omega) ?_
  refine AW_iconst dX7_layGone_7 ?_
  refine AW_istore_n (i := 1) (lv' := [_, _]) dX7_layGone_8 rfl (by decide) (Nat.le_of_ble_eq_true rfl) rfl ?_
  rw [show am_up σ 74 0 0 = am_row σ 74 (0 + 1) (gn (σ.1 71)) from by rw [← am_row_s (g := gn (σ.1 71)) (n := 0) (x := 0) rfl, am_row_0]]
  exact l_layGone7 hW ⟨rfl, rfl⟩ 0 (by omega)
def goneS (X : Row) (tick : Int) : Int := if 0 ≤ tick ∧ tick ≤ 300 then gn X tick.toNat else -2
theorem c_gone7 {σ : am_S} {n : Int} (hn : -2147483648 ≤ n ∧ n < 2147483648) (hW : WS (σ.1 71)) : Runs am_tab mX7_gone [vR 70, vI n] σ (QI (fun z σ' => z = goneS (σ.1 71) n ∧ MS σ σ' (σ.1 71))) := by
  refine Runs.of (by decide) rfl (by simp) (Nat.le_of_ble_eq_true rfl) ?_
  show AW am_tab mX7_gone 0 [some (vR 70), some (vI n)] [] σ _
  refine AW_iload_n dX7_gone_0 rfl ?_
  refine AW_cSI1 dX7_gone_1 kX7_60 (am_fit_b rfl) (Nat.le_of_ble_eq_true rfl) (c_isTick7 hn) (fun z σ' hq => ?_)
  obtain ⟨rfl, ⟨rfl, h1⟩ | ⟨rfl, h1⟩⟩ := hq
  · refine AW_if_ne 10 dX7_gone_4 (by decide) (by decide) (fun _ => ?_) (fun h => absurd (by decide) h)
    refine AW_aload_n dX7_gone_10 rfl ?_
    refine AW_cVV0 dX7_gone_11 kX7_72 (am_fit_b rfl) rfl rfl (Nat.le_of_ble_eq_true rfl) (c_layGone7 hW) (fun σ' hq => ?_)
    replace hq := hq.symm
    subst hq
    refine AW_aload_n dX7_gone_14 rfl ?_
    refine AW_get dX7_gone_15 fX7_20 rfl rfl ?_
    refine AW_iload_n dX7_gone_18 rfl ?_
    refine AW_ialdN (j := n.toNat) dX7_gone_19 rfl (Nat.le_of_ble_eq_true rfl) (by omega) (by omega) ?_
    refine AW_iret dX7_gone_20 rfl ?_
    exact ⟨_, rfl, by simp only [goneS]; rw [if_pos (by omega), am_row_at (by omega)], MS.rf.row (by decide)⟩
  · refine AW_if_ne 10 dX7_gone_4 (by decide) (by decide) (fun h => absurd h (by decide)) (fun _ => ?_)
    refine AW_bipush dX7_gone_7 (by decide) ?_
    refine AW_iret dX7_gone_9 rfl ?_
    exact ⟨_, rfl, by simp only [goneS]; rw [if_neg (by omega)], MS.rf⟩
def speedS (X : Row) (tick n : Int) : Int × Row := if (0 ≤ tick ∧ tick ≤ 300) ∧ 0 ≤ n ∧ n ≤ 9 then (if X tick.toNat < 0 ∧ chg X 300 = 8 then (-4, X) else (spAt X tick.toNat, rup X tick.toNat n)) else (-2, X)
def levelS (X : Row) (tick : Int) : Int × Row := if 1 ≤ tick ∧ tick ≤ 300 then (if X tick.toNat < 0 then (-5, X) else (chg (rup X tick.toNat (-6)) 300, rup X tick.toNat (-6))) else (-2, X)
theorem c_speed7 {σ : am_S} {tick n : Int} (hn : -2147483648 ≤ n ∧ n < 2147483648) (ht : -2147483648 ≤ tick ∧ tick < 2147483648) (hW : WS (σ.1 71)) : Runs am_tab mX7_speed [vR 70, vI tick, vI n] σ (QI (fun z σ' => z = (speedS (σ.1 71) tick n).1 ∧ MS σ σ' (speedS (σ.1 71) tick n).2)) := by
  refine Runs.of (by decide) rfl (by simp) (Nat.le_of_ble_eq_true rfl) ?_
  show AW am_tab mX7_speed 0 [some (vR 70), some (vI tick), some (vI n), none] [] σ _
  refine AW_iload_n dX7_speed_0 rfl ?_
  refine AW_cSI1 dX7_speed_1 kX7_60 (am_fit_b rfl) (Nat.le_of_ble_eq_true rfl) (c_isTick7 ht) (fun z σ' hq => ?_)
  obtain ⟨rfl, ⟨rfl, h1⟩ | ⟨rfl, h1⟩⟩ := hq
  · refine AW_if_eq 17 dX7_speed_4 (by decide) (by decide) (fun h => absurd h (by decide)) (fun _ => ?_)
    refine AW_iload_n dX7_speed_7 rfl ?_
    refine AW_iconst dX7_speed_8 ?_
    refine AW_bipush dX7_speed_9 (by decide) ?_
    refine AW_cSI3 dX7_speed_11 kX7_56 (am_fit_b rfl) (Nat.le_of_ble_eq_true rfl) (c_in hn (by omega) (by omega)) (fun z σ' hq => ?_)
    obtain ⟨rfl, ⟨rfl, h11⟩ | ⟨rfl, h11⟩⟩ := hq
    · refine AW_if_ne 20 dX7_speed_14 (by decide) (by decide) (fun _ => ?_) (fun h => absurd (by decide) h)
      obtain ⟨t, rfl⟩ : ∃ t : Nat, tick = t := ⟨tick.toNat, by omega⟩
      refine AW_aload_n dX7_speed_20 rfl ?_
      refine AW_get dX7_speed_21 fX7_7 rfl rfl ?_
      refine AW_iconst dX7_speed_24 ?_
      refine AW_iload_n dX7_speed_25 rfl ?_
      refine AW_iadd dX7_speed_26 ?_
      refine AW_ialdN (j := t) dX7_speed_27 rfl (Nat.le_of_ble_eq_true rfl) (by omega) (by omega) ?_
      have hb := hW.2 t (by omega)
      refine AW_if_ge 43 dX7_speed_28 (by decide) (by omega) (fun h28 => ?_) (fun h28 => ?_)
      · refine AW_aload_n dX7_speed_43 rfl ?_
        refine AW_iload_n dX7_speed_44 rfl ?_
        refine AW_cVI1 dX7_speed_45 kX7_68 (am_fit_b rfl) rfl rfl (Nat.le_of_ble_eq_true rfl) (c_speedAt7 hW (by omega)) (fun z σ' hq => ?_)
        obtain ⟨hz, hs⟩ := hq
        replace hz := hz.symm
        subst hz
        replace hs := hs.symm
        subst hs
        refine AW_istore_n (i := 3) (lv' := [_, _, _, _]) dX7_speed_48 rfl (by decide) (Nat.le_of_ble_eq_true rfl) rfl ?_
        refine AW_aload_n dX7_speed_49 rfl ?_
        refine AW_get dX7_speed_50 fX7_7 rfl rfl ?_
        refine AW_iconst dX7_speed_53 ?_
        refine AW_iload_n dX7_speed_54 rfl ?_
        refine AW_iadd dX7_speed_55 ?_
        refine AW_iload_n dX7_speed_56 rfl ?_
        refine AW_iastN (j := t) dX7_speed_57 rfl (Nat.le_of_ble_eq_true rfl) (by omega) (by omega) ?_
        refine AW_iload_n dX7_speed_58 rfl ?_
        refine AW_iret dX7_speed_59 rfl ?_
        refine ⟨_, rfl, ?_⟩
        simp only [speedS, Int.toNat_natCast]
        rw [if_pos (by omega), if_neg (by omega)]
        exact ⟨rfl, MS.rf.set⟩
      · refine AW_aload_n dX7_speed_31 rfl ?_
        refine AW_cVI0 dX7_speed_32 kX7_64 (am_fit_b rfl) rfl rfl (Nat.le_of_ble_eq_true rfl) (c_changes7 hW) (fun z σ' hq => ?_)
        obtain ⟨hz, hs⟩ := hq
        replace hz := hz.symm
        subst hz
        replace hs := hs.symm
        subst hs
        have hcb := chg_b (X := σ.1 71) 300
        refine AW_bipush dX7_speed_35 (by decide) ?_
        refine AW_icmp_ne 43 dX7_speed_37 (by decide) (by omega) (by omega) (fun h37 => ?_) (fun h37 => ?_)
        · refine AW_aload_n dX7_speed_43 rfl ?_
          refine AW_iload_n dX7_speed_44 rfl ?_
          refine AW_cVI1 dX7_speed_45 kX7_68 (am_fit_b rfl) rfl rfl (Nat.le_of_ble_eq_true rfl) (c_speedAt7 hW (by omega)) (fun z σ' hq => ?_)
          obtain ⟨hz, hs⟩ := hq
          replace hz := hz.symm
          subst hz
          replace hs := hs.symm
          subst hs
          refine AW_istore_n (i := 3) (lv' := [_, _, _, _]) dX7_speed_48 rfl (by decide) (Nat.le_of_ble_eq_true rfl) rfl ?_
          refine AW_aload_n dX7_speed_49 rfl ?_
          refine AW_get dX7_speed_50 fX7_7 rfl rfl ?_
          refine AW_iconst dX7_speed_53 ?_
          refine AW_iload_n dX7_speed_54 rfl ?_
          refine AW_iadd dX7_speed_55 ?_
          refine AW_iload_n dX7_speed_56 rfl ?_
          refine AW_iastN (j := t) dX7_speed_57 rfl (Nat.le_of_ble_eq_true rfl) (by omega) (by omega) ?_
          refine AW_iload_n dX7_speed_58 rfl ?_
          refine AW_iret dX7_speed_59 rfl ?_
          refine ⟨_, rfl, ?_⟩
          simp only [speedS, Int.toNat_natCast]
          rw [if_pos (by omega), if_neg (by omega)]
          exact ⟨rfl, MS.rf.set⟩
        · refine AW_bipush dX7_speed_40 (by decide) ?_
          refine AW_iret dX7_speed_42 rfl ?_
          refine ⟨_, rfl, ?_⟩
          simp only [speedS, Int.toNat_natCast]
          rw [if_pos (by omega), if_pos (by omega)]
          exact ⟨rfl, MS.rf⟩
    · refine AW_if_ne 20 dX7_speed_14 (by decide) (by decide) (fun h => absurd h (by decide)) (fun _ => ?_)
      refine AW_bipush dX7_speed_17 (by decide) ?_
      refine AW_iret dX7_speed_19 rfl ?_
      refine ⟨_, rfl, ?_⟩
      simp only [speedS]
      rw [if_neg (by omega)]
      exact ⟨rfl, MS.rf⟩
  · refine AW_if_eq 17 dX7_speed_4 (by decide) (by decide) (fun _ => ?_) (fun h => absurd (by decide) h)
    refine AW_bipush dX7_speed_17 (by decide) ?_
    refine AW_iret dX7_speed_19 rfl ?_
    refine ⟨_, rfl, ?_⟩
    simp only [speedS]
    rw [if_neg (by omega)]
    exact ⟨rfl, MS.rf⟩
theorem WS_rup {X : Row} (h : WS X) {j : Nat} {x : Int} (hx : -6 ≤ x ∧ x ≤ 9) (hj : j = 0 → 0 ≤ x) : WS (rup X j x) := by
  refine ⟨?_, fun t ht => ?_⟩
  · simp only [rup]
    split
    · exact hj (by omega)
    · exact h.1
  · simp only [rup]
    split
    · exact hx
    · exact h.2 t ht
theorem c_level7 {σ : am_S} {tick : Int} (ht : -2147483648 ≤ tick ∧ tick < 2147483648) (hW : WS (σ.1 71)) : Runs am_tab mX7_level [vR 70, vI tick] σ (QI (fun z σ' => z = (levelS (σ.1 71) tick).1 ∧ MS σ σ' (levelS (σ.1 71) tick).2)) := by
  refine Runs.of (by decide) rfl (by simp) (Nat.le_of_ble_eq_true rfl) ?_
  show AW am_tab mX7_level 0 [some (vR 70), some (vI tick)] [] σ _
  refine AW_iload_n dX7_level_0 rfl ?_
  refine AW_iconst dX7_level_1 ?_
  refine AW_sipush dX7_level_2 (by decide) ?_
  refine AW_cSI3 dX7_level_5 kX7_56 (am_fit_b rfl) (Nat.le_of_ble_eq_true rfl) (c_in ht (by omega) (by omega)) (fun z σ' hq => ?_)
  obtain ⟨rfl, ⟨rfl, h5⟩ | ⟨rfl, h5⟩⟩ := hq
  · refine AW_if_ne 14 dX7_level_8 (by decide) (by decide) (fun _ => ?_) (fun h => absurd (by decide) h)
    obtain ⟨t, rfl⟩ : ∃ t : Nat, tick = t := ⟨tick.toNat, by omega⟩
    refine AW_aload_n dX7_level_14 rfl ?_
    refine AW_get dX7_level_15 fX7_7 rfl rfl ?_
    refine AW_iconst dX7_level_18 ?_
    refine AW_iload_n dX7_level_19 rfl ?_
    refine AW_iadd dX7_level_20 ?_
    refine AW_ialdN (j := t) dX7_level_21 rfl (Nat.le_of_ble_eq_true rfl) (by omega) (by omega) ?_
    have hb := hW.2 t (by omega)
    refine AW_if_ge 28 dX7_level_22 (by decide) (by omega) (fun h22 => ?_) (fun h22 => ?_)
    · refine AW_aload_n dX7_level_28 rfl ?_
      refine AW_get dX7_level_29 fX7_7 rfl rfl ?_
      refine AW_iconst dX7_level_32 ?_
      refine AW_iload_n dX7_level_33 rfl ?_
      refine AW_iadd dX7_level_34 ?_
      refine AW_bipush dX7_level_35 (by decide) ?_
      refine AW_iastN (j := t) dX7_level_37 rfl (Nat.le_of_ble_eq_true rfl) (by omega) (by omega) ?_
      refine AW_aload_n dX7_level_38 rfl ?_
      refine AW_cVI0 dX7_level_39 kX7_64 (am_fit_b rfl) rfl rfl (Nat.le_of_ble_eq_true rfl) (c_changes7 (by rw [am_up_same]; exact WS_rup hW (by decide) (by omega))) (fun z σ' hq => ?_)
      obtain ⟨hz, hs⟩ := hq
      replace hz := hz.symm
      subst hz
      replace hs := hs.symm
      subst hs
      refine AW_iret dX7_level_42 rfl ?_
      refine ⟨_, rfl, ?_⟩
      simp only [levelS, Int.toNat_natCast]
      rw [if_pos (by omega), if_neg (by omega)]
      exact ⟨by rw [am_up_same], MS.rf.set⟩
    · refine AW_bipush dX7_level_25 (by decide) ?_
      refine AW_iret dX7_level_27 rfl ?_
      refine ⟨_, rfl, ?_⟩
      simp only [levelS, Int.toNat_natCast]
      rw [if_pos (by omega), if_pos (by omega)]
      exact ⟨rfl, MS.rf⟩
  · refine AW_if_ne 14 dX7_level_8 (by decide) (by decide) (fun h => absurd h (by decide)) (fun _ => ?_)
    refine AW_bipush dX7_level_11 (by decide) ?_
    refine AW_iret dX7_level_13 rfl ?_
    refine ⟨_, rfl, ?_⟩
    simp only [levelS]
    rw [if_neg (by omega)]
    exact ⟨rfl, MS.rf⟩
