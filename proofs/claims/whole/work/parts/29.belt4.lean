def GO (σ : am_S) (X : Row) : Prop := ∀ t, t ≤ 300 → σ.1 6 t = gn X t
/-- behind addUp -/
theorem addUp_ok {σ : am_S} {X : Row} (hB : BO σ X) : BO (am_row σ 6 301 (cgn (σ.1 3 0) (σ.1 3 1) (σ.1 4) (σ.1 5))) X ∧ GO (am_row σ 6 301 (cgn (σ.1 3 0) (σ.1 3 1) (σ.1 4) (σ.1 5))) X := by
  refine ⟨?_, fun t ht => ?_⟩
  · unfold BO
    rw [am_row_other (by decide), am_row_other (by decide), am_row_other (by decide)]
    exact hB
  · rw [am_row_at (by omega)]
    exact cgn_gn hB t (by omega)
theorem c_addUp3 {σ : am_S} {X : Row} (hB : BO σ X) : Runs am_tab mX1_addUp [vR 3] σ (QV (fun σ' => σ' = am_row σ 6 301 (cgn (σ.1 3 0) (σ.1 3 1) (σ.1 4) (σ.1 5)))) := c_addUp rfl rfl rfl rfl (by decide) (by decide) (by decide) hB.2.1 (fun i hi => (hB.2.2.1 i hi).1)
def shD (f : Row) (a i : Nat) : Row := fun j => if a ≤ j ∧ j < i then f (j + 1) else f j
theorem shD_s {f : Row} {a i : Nat} (h : a ≤ i) : rup (shD f a i) i (shD f a i (i + 1)) = shD f a (i + 1) := by
  funext j
  simp only [rup, shD]
  by_cases e : j = i
  · subst e
    rw [if_pos rfl, if_neg (by omega), if_pos (by omega)]
  · rw [if_neg e]
    by_cases q : a ≤ j ∧ j < i
    · rw [if_pos q, if_pos (by omega)]
    · rw [if_neg q, if_neg (by omega)]
theorem shD_a {f : Row} {a : Nat} : shD f a a = f := by
  funext j
  simp only [shD]
  rw [if_neg (by omega)]
theorem shD_rem {f : Row} {a c : Nat} (hc : 0 < c) : shD f a (c - 1) = remR f a c := by
  funext j
  simp only [shD, remR]
  by_cases q : a ≤ j ∧ j < c - 1
  · rw [if_pos q, if_pos (by omega)]
  · rw [if_neg q, if_neg (by omega)]
theorem l_forget {σ0 : am_S} {a c : Nat} (hc : c ≤ 8) (hc0 : 0 < c) {Q : Option am_V → am_S → Prop} (hk2 : ∀ σ, Eqx [4, 5] σ0 σ → σ.1 3 1 = (c : Int) - 1 → σ.1 4 = shD (σ0.1 4) a (c - 1) → σ.1 5 = shD (σ0.1 5) a (c - 1) → AW am_tab mX1_forget 54 [some (vR 3), some (vI (a : Nat)), some (vI (c - 1 : Nat))] [] σ Q) : ∀ i : Nat, i ≤ c - 1 → a ≤ i → ∀ σ : am_S, Eqx [4, 5] σ0 σ → σ.1 3 1 = (c : Int) - 1 → σ.1 4 = shD (σ0.1 4) a i → σ.1 5 = shD (σ0.1 5) a i → AW am_tab mX1_forget 12 [some (vR 3), some (vI (a : Nat)), some (vI (i : Nat))] [] σ Q :=
  up_loop (fun i hi0 ih hai σ hE h3 h4 h5 => by
    refine AW_iload_n dX1_forget_12 rfl ?_
    refine AW_aload_n dX1_forget_13 rfl ?_
    refine AW_get dX1_forget_14 fX1_15 rfl rfl ?_
    rw [h3]
    refine AW_icmp_ge 54 dX1_forget_17 (by decide) (by omega) (by omega) (fun h17 => ?_) (fun h17 => ?_)
    · have e : i = c - 1 := by omega
      subst e
      exact hk2 σ hE h3 h4 h5
    · refine AW_aload_n dX1_forget_20 rfl ?_
      refine AW_get dX1_forget_21 fX1_18 rfl rfl ?_
      refine AW_iload_n dX1_forget_24 rfl ?_
      refine AW_aload_n dX1_forget_25 rfl ?_
      refine AW_get dX1_forget_26 fX1_18 rfl rfl ?_
      refine AW_iload_n dX1_forget_29 rfl ?_
      refine AW_iconst dX1_forget_30 ?_
      refine AW_iadd dX1_forget_31 ?_
      refine AW_ialdN (j := i + 1) dX1_forget_32 rfl (Nat.le_of_ble_eq_true rfl) (by omega) (by omega) ?_
      refine AW_iastN (j := i) dX1_forget_33 rfl (Nat.le_of_ble_eq_true rfl) (by omega) (by omega) ?_
      refine AW_aload_n dX1_forget_34 rfl ?_
      refine AW_get dX1_forget_35 fX1_22 rfl rfl ?_
      refine AW_iload_n dX1_forget_38 rfl ?_
      refine AW_aload_n dX1_forget_39 rfl ?_
      refine AW_get dX1_forget_40 fX1_22 rfl rfl ?_
      refine AW_iload_n dX1_forget_43 rfl ?_
      refine AW_iconst dX1_forget_44 ?_
      refine AW_iadd dX1_forget_45 ?_
      refine AW_ialdN (j := i + 1) dX1_forget_46 rfl (Nat.le_of_ble_eq_true rfl) (by omega) (by omega) ?_
      refine AW_iastN (j := i) dX1_forget_47 rfl (Nat.le_of_ble_eq_true rfl) (by omega) (by omega) ?_
      refine AW_iinc (lv' := [_, _, _]) dX1_forget_48 rfl (by decide) rfl ?_
      refine AW_goto (tgt := 12) dX1_forget_51 (by decide) ?_
      have e4 : (am_up (am_up σ 4 i (σ.1 4 (i + 1))) 5 i ((am_up σ 4 i (σ.1 4 (i + 1))).1 5 (i + 1))).1 4 = shD (σ0.1 4) a (i + 1) := by
        rw [am_up_other (by decide), am_up_same, h4, shD_s (by omega)]
      have e5 : (am_up (am_up σ 4 i (σ.1 4 (i + 1))) 5 i ((am_up σ 4 i (σ.1 4 (i + 1))).1 5 (i + 1))).1 5 = shD (σ0.1 5) a (i + 1) := by
        rw [am_up_same, am_up_other (by decide), h5, shD_s (by omega)]
      exact ih (by omega) (by omega) _ ((hE.up (by decide)).up (by decide)) (by rw [am_up_other (by decide), am_up_other (by decide)]; exact h3) e4 e5)
theorem c_forget {σ : am_S} {X : Row} (hB : BO σ X) {a c t : Nat} (hcc : σ.1 3 1 = (c : Nat)) (ha : a < c) (hta : σ.1 4 a = (t : Nat)) : Runs am_tab mX1_forget [vR 3, vI a] σ (QV (fun σ' => Eqx [3, 4, 5, 6] σ σ' ∧ BO σ' (rup X t (-6)) ∧ GO σ' (rup X t (-6)) ∧ σ'.1 3 1 = (c : Int) - 1)) := by
  refine Runs.of (by decide) rfl (by simp) (Nat.le_of_ble_eq_true rfl) ?_
  show AW am_tab mX1_forget 0 [some (vR 3), some (vI a), none] [] σ _
  have hcb := hB.2.1
  refine AW_aload_n dX1_forget_0 rfl ?_
  first | refine AW_dupR dX1_forget_1 ?_ | refine AW_dupI dX1_forget_1 ?_
  refine AW_get dX1_forget_2 fX1_15 rfl rfl ?_
  refine AW_iconst dX1_forget_5 ?_
  refine AW_isub dX1_forget_6 ?_
  refine AW_put dX1_forget_7 pX1_15 rfl rfl rfl rfl ?_
  refine AW_iload_n dX1_forget_10 rfl ?_
  refine AW_istore_n (i := 2) (lv' := [_, _, _]) dX1_forget_11 rfl (by decide) (Nat.le_of_ble_eq_true rfl) rfl ?_
  rw [hcc]
  refine l_forget (σ0 := am_up σ 3 1 ((c : Int) - 1)) (a := a) (c := c) (by omega) (by omega) (fun σ2 hE h3 h4 h5 => ?_) a (by omega) (Nat.le_refl _) _ Eqx.rf (by rw [am_up_same]; exact if_pos rfl) shD_a.symm shD_a.symm
  rw [am_up_other (by decide), shD_rem (by omega)] at h4 h5
  have h30 : σ2.1 3 0 = σ.1 3 0 := by rw [hE.1 3 (by decide), am_up_same]; exact if_neg (by decide)
  have hB2 : BO σ2 (rup X t (-6)) := by
    unfold BO
    rw [h30, h3, h4, h5]
    unfold BO at hB
    rw [hcc] at hB
    exact belt_rem hB ha hta
  refine AW_aload_n dX1_forget_54 rfl ?_
  refine AW_cVV0 dX1_forget_55 kX1_28 (am_fit_b rfl) rfl rfl (Nat.le_of_ble_eq_true rfl) (c_addUp3 hB2) (fun σ' hq => ?_)
  replace hq := hq.symm
  subst hq
  refine AW_vret dX1_forget_58 rfl ?_
  have hok := addUp_ok hB2
  refine ⟨rfl, ?_, hok.1, hok.2, ?_⟩
  · exact ((Eqx.rf (S := [3, 4, 5, 6])).up (by decide)).tr ((hE.mono (by decide)).row (by decide))
  · rw [am_row_other (by decide)]; exact h3
theorem c_tell {σ : am_S} {X : Row} (hB : BO σ X) {t : Nat} (ht : t ≤ 300) {n : Int} (hn : 0 ≤ n ∧ n ≤ 9) (hfull : t = 0 ∨ (∃ i : Nat, (i : Int) < σ.1 3 1 ∧ σ.1 4 i = (t : Nat)) ∨ σ.1 3 1 < 8) : Runs am_tab mX1_tell [vR 3, vI t, vI n] σ (QV (fun σ' => Eqx [3, 4, 5, 6] σ σ' ∧ BO σ' (rup X t n) ∧ GO σ' (rup X t n))) := by
  refine Runs.of (by decide) rfl (by simp) (Nat.le_of_ble_eq_true rfl) ?_
  show AW am_tab mX1_tell 0 [some (vR 3), some (vI t), some (vI n), none] [] σ _
  have hcb := hB.2.1
  refine AW_aload_n dX1_tell_0 rfl ?_
  refine AW_iload_n dX1_tell_1 rfl ?_
  refine AW_cVI1 dX1_tell_2 kX1_41 (am_fit_b rfl) rfl rfl (Nat.le_of_ble_eq_true rfl) (c_changeAt hB (by omega)) (fun z σ2 hq => ?_)
  obtain ⟨hs, hq⟩ := hq
  subst hs
  have hzb : -1 ≤ z ∧ z < 8 := by
    rcases hq with ⟨i, rfl, h1, _⟩ | ⟨rfl, _⟩ <;> omega
  refine AW_istore_n (i := 3) (lv' := [_, _, _, _]) dX1_tell_5 rfl (by decide) (Nat.le_of_ble_eq_true rfl) rfl ?_
  refine AW_iload_n dX1_tell_6 rfl ?_
  refine AW_if_ne 18 dX1_tell_7 (by decide) (by omega) (fun h7 => ?_) (fun h7 => ?_)
  · refine AW_iload_n dX1_tell_18 rfl ?_
    refine AW_if_lt 32 dX1_tell_19 (by decide) (by omega) (fun h19 => ?_) (fun h19 => ?_)
    · refine AW_aload_n dX1_tell_32 rfl ?_
      refine AW_get dX1_tell_33 fX1_15 rfl rfl ?_
      refine AW_bipush dX1_tell_36 (by decide) ?_
      refine AW_icmp_ge 52 dX1_tell_38 (by decide) (by omega) (by omega) (fun h38 => ?_) (fun h38 => ?_)
      · exfalso
        rcases hq with ⟨i, rfl, _⟩ | ⟨_, h⟩
        · omega
        · rcases hfull with q | ⟨i, q1, q2⟩ | q
          · omega
          · exact h i q1 q2
          · omega
      · have hnone : ∀ i : Nat, (i : Int) < σ.1 3 1 → σ.1 4 i ≠ (t : Nat) := by
          rcases hq with ⟨i, rfl, _⟩ | ⟨_, h⟩
          · omega
          · exact h
        obtain ⟨c, hcc⟩ : ∃ c : Nat, σ.1 3 1 = (c : Nat) := ⟨_, (Int.toNat_of_nonneg hcb.1).symm⟩
        refine AW_aload_n dX1_tell_41 rfl ?_
        refine AW_aload_n dX1_tell_42 rfl ?_
        refine AW_iload_n dX1_tell_43 rfl ?_
        refine AW_cVI1 dX1_tell_44 kX1_37 (am_fit_b rfl) rfl rfl (Nat.le_of_ble_eq_true rfl) (c_begunBy hB (by omega)) (fun z σ' hq => ?_)
        obtain ⟨hs, m, rfl, hm1, hm2, hm3⟩ := hq
        subst hs
        refine AW_iload_n dX1_tell_47 rfl ?_
        refine AW_iload_n dX1_tell_48 rfl ?_
        refine AW_cVV3 dX1_tell_49 kX1_44 (am_fit_b rfl) rfl rfl (Nat.le_of_ble_eq_true rfl) (c_insert (σ := σ) (a := m) (c := c) (by omega) (by omega) hcc) (fun σ' hq2 => ?_)
        obtain ⟨hE, g4, g5, g30, g31⟩ := hq2
        have hB2 : BO σ' (rup X t n) := by
          unfold BO
          rw [g30, g31, g4, g5]
          have hB' := hB
          unfold BO at hB'
          rw [hcc] at hB'
          refine belt_ins hB' hn (by omega) (by omega) (by omega) (fun i hi => ?_) (fun i hi hic => hm3 i hi (by omega))
          have := hm2 i hi
          have := hnone i (by omega)
          omega
        have hEE : Eqx [3, 4, 5, 6] σ σ' := hE.mono (by decide)
        refine AW_aload_n dX1_tell_52 rfl ?_
        refine AW_cVV0 dX1_tell_53 kX1_28 (am_fit_b rfl) rfl rfl (Nat.le_of_ble_eq_true rfl) (c_addUp3 hB2) (fun σ' hq => ?_)
        replace hq := hq.symm
        subst hq
        refine AW_vret dX1_tell_56 rfl ?_
        have hok := addUp_ok hB2
        refine ⟨rfl, hEE.row (by decide), hok.1, hok.2⟩
    · obtain ⟨i, hzi, hi1, hi2⟩ : ∃ i : Nat, z = i ∧ (i : Int) < σ.1 3 1 ∧ σ.1 4 i = (t : Nat) := by
        rcases hq with h | ⟨rfl, _⟩
        · exact h
        · omega
      subst hzi
      have hB2 : BO (am_up σ 5 i n) (rup X t n) := by
        unfold BO
        rw [am_up_other (by decide), am_up_other (by decide), am_up_same]
        exact belt_at hB hn hi1 hi2
      have hEE : Eqx [3, 4, 5, 6] σ (am_up σ 5 i n) := Eqx.rf.up (by decide)
      refine AW_aload_n dX1_tell_22 rfl ?_
      refine AW_get dX1_tell_23 fX1_22 rfl rfl ?_
      refine AW_iload_n dX1_tell_26 rfl ?_
      refine AW_iload_n dX1_tell_27 rfl ?_
      refine AW_iastN (j := i) dX1_tell_28 rfl (Nat.le_of_ble_eq_true rfl) (by omega) (by omega) ?_
      refine AW_goto (tgt := 52) dX1_tell_29 (by decide) ?_
      refine AW_aload_n dX1_tell_52 rfl ?_
      refine AW_cVV0 dX1_tell_53 kX1_28 (am_fit_b rfl) rfl rfl (Nat.le_of_ble_eq_true rfl) (c_addUp3 hB2) (fun σ' hq => ?_)
      replace hq := hq.symm
      subst hq
      refine AW_vret dX1_tell_56 rfl ?_
      have hok := addUp_ok hB2
      refine ⟨rfl, hEE.row (by decide), hok.1, hok.2⟩
  · refine AW_aload_n dX1_tell_10 rfl ?_
    refine AW_iload_n dX1_tell_11 rfl ?_
    refine AW_put dX1_tell_12 pX1_9 rfl rfl rfl rfl ?_
    refine AW_goto (tgt := 52) dX1_tell_15 (by decide) ?_
    have hB2 : BO (am_up σ 3 0 n) (rup X t n) := by
      unfold BO
      rw [am_up_other (a' := 4) (by decide), am_up_other (a' := 5) (by decide), am_up_same, show rup (σ.1 3) 0 n 0 = n from if_pos rfl, show rup (σ.1 3) 0 n 1 = σ.1 3 1 from if_neg (by decide), show t = 0 by omega]
      exact belt_0 hB
    have hEE : Eqx [3, 4, 5, 6] σ (am_up σ 3 0 n) := Eqx.rf.up (by decide)
    refine AW_aload_n dX1_tell_52 rfl ?_
    refine AW_cVV0 dX1_tell_53 kX1_28 (am_fit_b rfl) rfl rfl (Nat.le_of_ble_eq_true rfl) (c_addUp3 hB2) (fun σ' hq => ?_)
    replace hq := hq.symm
    subst hq
    refine AW_vret dX1_tell_56 rfl ?_
    have hok := addUp_ok hB2
    refine ⟨rfl, hEE.row (by decide), hok.1, hok.2⟩
theorem gn_mono {X : Row} (h : WS X) : ∀ d t, t + d ≤ 301 → gn X t ≤ gn X (t + d) := by
  intro d
  induction d with
  | zero => intro t _; exact Int.le_refl _
  | succ d ih =>
    intro t ht
    have h1 := ih t (by omega)
    have h2 := spAt_b h (t + d) (by omega)
    have e : gn X (t + (d + 1)) = gn X (t + d) + spAt X (t + d) := rfl
    omega
theorem gn_le {X : Row} (h : WS X) {t u : Nat} (htu : t ≤ u) (hu : u ≤ 301) : gn X t ≤ gn X u := by
  have := gn_mono h (u - t) t (by omega)
  rwa [show t + (u - t) = u by omega] at this
def hst (j : Nat) : Nat := 256 / 2 ^ j
def pst (j : Nat) : Nat := 512 / 2 ^ j
theorem half9 : ∀ j : Fin 10, ((hst j.val : Nat) : Int).tdiv 2 = ((hst (j.val + 1) : Nat) : Int) := by decide
theorem half_pos : ∀ j : Fin 9, 0 < hst j.val ∧ pst j.val = 2 * hst j.val ∧ pst (j.val + 1) = hst j.val := by decide
theorem half_b : ∀ j : Fin 10, hst j.val ≤ 256 := by decide
theorem l_firstTickGone {σ : am_S} {X : Row} (hS : WS X) (hG : GO σ X) {least : Int} (hleast : -2147483648 ≤ least ∧ least < 2147483648) {Q : Option am_V → am_S → Prop} (hQ : ∀ Bf : Nat, Bf ≤ 301 → (∀ t, t < Bf → gn X t < least) → (∀ t, Bf ≤ t → t ≤ 300 → least ≤ gn X t) → Q (some (vI (Bf : Nat))) σ) : ∀ j : Nat, j ≤ 9 → ∀ Bf : Nat, Bf ≤ 301 → (∀ t, t < Bf → gn X t < least) → (∀ t, Bf + pst j ≤ t + 1 → t ≤ 300 → least ≤ gn X t) → AW am_tab mX1_firstTickGone 6 [some (vR 3), some (vI least), some (vI (Bf : Nat)), some (vI (hst j : Nat))] [] σ Q :=
  up_loop (fun j hj0 ih Bf hBf hL hU => by
    have hjb := half_b ⟨j, by omega⟩
    dsimp only at hjb
    refine AW_iload_n dX1_firstTickGone_6 rfl ?_
    refine AW_if_le 44 dX1_firstTickGone_7 (by decide) (by omega) (fun h7 => ?_) (fun h7 => ?_)
    · have e : j = 9 := by
        rcases Nat.lt_or_ge j 9 with q | q
        · have := half_pos ⟨j, q⟩
          dsimp only at this
          omega
        · omega
      subst e
      refine AW_iload_n dX1_firstTickGone_44 rfl ?_
      refine AW_iret dX1_firstTickGone_45 rfl ?_
      exact hQ Bf hBf hL (fun t h1 h2 => hU t (by rw [show pst 9 = 1 from rfl]; omega) h2)
    · refine AW_iload_n dX1_firstTickGone_10 rfl ?_
      refine AW_iload_n dX1_firstTickGone_11 rfl ?_
      refine AW_iadd dX1_firstTickGone_12 ?_
      refine AW_sipush dX1_firstTickGone_13 (by decide) ?_
      refine AW_icmp_gt 37 dX1_firstTickGone_16 (by decide) (by omega) (by omega) (fun h16 => ?_) (fun h16 => ?_)
      · have hj9 : j < 9 := by
          rcases Nat.lt_or_ge j 9 with q | q
          · exact q
          · have e : j = 9 := by omega
            subst e
            exact absurd (show ((hst 9 : Nat) : Int) ≤ 0 by decide) h7
        have hhp := half_pos ⟨j, hj9⟩
        dsimp only at hhp
        have hh := half9 ⟨j, by omega⟩
        dsimp only at hh
        refine AW_iload_n dX1_firstTickGone_37 rfl ?_
        refine AW_iconst dX1_firstTickGone_38 ?_
        refine AW_idiv dX1_firstTickGone_39 (by omega) (by omega) (by decide) ?_
        refine AW_istore_n (i := 3) (lv' := [_, _, _, _]) dX1_firstTickGone_40 rfl (by decide) (Nat.le_of_ble_eq_true rfl) rfl ?_
        refine AW_goto (tgt := 6) dX1_firstTickGone_41 (by decide) ?_
        rw [hh]
        exact ih (by omega) Bf hBf hL (fun t h1 h2 => by omega)
      · refine AW_aload_n dX1_firstTickGone_19 rfl ?_
        refine AW_get dX1_firstTickGone_20 fX1_25 rfl rfl ?_
        refine AW_iload_n dX1_firstTickGone_23 rfl ?_
        refine AW_iload_n dX1_firstTickGone_24 rfl ?_
        refine AW_iadd dX1_firstTickGone_25 ?_
        refine AW_iconst dX1_firstTickGone_26 ?_
        refine AW_isub dX1_firstTickGone_27 ?_
        refine AW_ialdN (j := Bf + hst j - 1) dX1_firstTickGone_28 rfl (Nat.le_of_ble_eq_true rfl) (by omega) (by omega) ?_
        rw [hG _ (by omega)]
        have hgb := gn_b hS (Bf + hst j - 1) (by omega)
        refine AW_iload_n dX1_firstTickGone_29 rfl ?_
        refine AW_icmp_ge 37 dX1_firstTickGone_30 (by decide) (by omega) (by omega) (fun h30 => ?_) (fun h30 => ?_)
        · have hj9 : j < 9 := by
            rcases Nat.lt_or_ge j 9 with q | q
            · exact q
            · have e : j = 9 := by omega
              subst e
              exact absurd (show ((hst 9 : Nat) : Int) ≤ 0 by decide) h7
          have hhp := half_pos ⟨j, hj9⟩
          dsimp only at hhp
          have hh := half9 ⟨j, by omega⟩
          dsimp only at hh
          refine AW_iload_n dX1_firstTickGone_37 rfl ?_
          refine AW_iconst dX1_firstTickGone_38 ?_
          refine AW_idiv dX1_firstTickGone_39 (by omega) (by omega) (by decide) ?_
          refine AW_istore_n (i := 3) (lv' := [_, _, _, _]) dX1_firstTickGone_40 rfl (by decide) (Nat.le_of_ble_eq_true rfl) rfl ?_
          refine AW_goto (tgt := 6) dX1_firstTickGone_41 (by decide) ?_
          rw [hh]
          refine ih (by omega) Bf hBf hL (fun t h1 h2 => ?_)
          have := gn_le hS (t := Bf + hst j - 1) (u := t) (by omega) (by omega)
          omega
        · refine AW_iload_n dX1_firstTickGone_33 rfl ?_
          refine AW_iload_n dX1_firstTickGone_34 rfl ?_
          refine AW_iadd dX1_firstTickGone_35 ?_
          refine AW_istore_n (i := 2) (lv' := [_, _, _, _]) dX1_firstTickGone_36 rfl (by decide) (Nat.le_of_ble_eq_true rfl) rfl ?_
          have hj9 : j < 9 := by
            rcases Nat.lt_or_ge j 9 with q | q
            · exact q
            · have e : j = 9 := by omega
              subst e
              exact absurd (show ((hst 9 : Nat) : Int) ≤ 0 by decide) h7
          have hhp := half_pos ⟨j, hj9⟩
          dsimp only at hhp
          have hh := half9 ⟨j, by omega⟩
          dsimp only at hh
          refine AW_iload_n dX1_firstTickGone_37 rfl ?_
          refine AW_iconst dX1_firstTickGone_38 ?_
          refine AW_idiv dX1_firstTickGone_39 (by omega) (by omega) (by decide) ?_
          refine AW_istore_n (i := 3) (lv' := [_, _, _, _]) dX1_firstTickGone_40 rfl (by decide) (Nat.le_of_ble_eq_true rfl) rfl ?_
          refine AW_goto (tgt := 6) dX1_firstTickGone_41 (by decide) ?_
          rw [hh]
          refine ih (by omega) (Bf + hst j) (by omega) (fun t ht => ?_) (fun t h1 h2 => hU t (by omega) h2)
          by_cases q : t < Bf
          · exact hL t q
          · have := gn_le hS (t := t) (u := Bf + hst j - 1) (by omega) (by omega)
            omega)
theorem c_firstTickGone {σ : am_S} {X : Row} (hS : WS X) (hG : GO σ X) {least : Int} (hleast : -2147483648 ≤ least ∧ least < 2147483648) : Runs am_tab mX1_firstTickGone [vR 3, vI least] σ (QI (fun z σ' => σ = σ' ∧ ∃ Bf : Nat, z = Bf ∧ Bf ≤ 301 ∧ (∀ t, t < Bf → gn X t < least) ∧ ∀ t, Bf ≤ t → t ≤ 300 → least ≤ gn X t)) := by
  refine Runs.of (by decide) rfl (by simp) (Nat.le_of_ble_eq_true rfl) ?_
  show AW am_tab mX1_firstTickGone 0 [some (vR 3), some (vI least), none, none] [] σ _
  refine AW_iconst dX1_firstTickGone_0 ?_
  refine AW_istore_n (i := 2) (lv' := [_, _, _, _]) dX1_firstTickGone_1 rfl (by decide) (Nat.le_of_ble_eq_true rfl) rfl ?_
  refine AW_sipush dX1_firstTickGone_2 (by decide) ?_
  refine AW_istore_n (i := 3) (lv' := [_, _, _, _]) dX1_firstTickGone_5 rfl (by decide) (Nat.le_of_ble_eq_true rfl) rfl ?_
  exact l_firstTickGone hS hG hleast (fun Bf h1 h2 h3 => ⟨_, rfl, rfl, Bf, rfl, h1, h2, h3⟩) 0 (by omega) 0 (by omega) (fun t ht => by omega) (fun t h1 h2 => by rw [show pst 0 = 512 from rfl] at h1; omega)
