/-! ===== the class's state is that of the row X ===== -/
def WX (X : Row) : Prop := WS X ∧ WT X ∧ WA X ∧ WN X
def CS (σ : am_S) (X : Row) : Prop := BO σ X ∧ GO σ X ∧ TO σ X ∧ AO σ X ∧ SN σ X ∧ σ.1 2 3 = X 6421 ∧ σ.1 2 4 = X 6422
theorem spAt_cg {X X' : Row} (h : ∀ t, t ≤ 300 → X' t = X t) : ∀ t, t ≤ 300 → spAt X' t = spAt X t := by
  intro t
  induction t with
  | zero => intro _; exact h 0 (by omega)
  | succ t ih =>
    intro ht
    simp only [spAt]
    rw [h (t + 1) ht, ih (by omega)]
theorem gn_cg {X X' : Row} (h : ∀ t, t ≤ 300 → X' t = X t) : ∀ t, t ≤ 300 → gn X' t = gn X t := by
  intro t
  induction t with
  | zero => intro _; rfl
  | succ t ih =>
    intro ht
    simp only [gn]
    rw [ih (by omega), spAt_cg h t (by omega)]
theorem WS_cg {X X' : Row} (h : ∀ t, t ≤ 300 → X' t = X t) (hS : WS X) : WS X' := ⟨by rw [h 0 (by omega)]; exact hS.1, fun t ht => by rw [h t ht]; exact hS.2 t ht⟩
theorem BO_cg {σ : am_S} {X X' : Row} (h : ∀ t, t ≤ 300 → X' t = X t) (hB : BO σ X) : BO σ X' := by
  obtain ⟨h1, h2, h3, h4, h5, h6, h7⟩ := hB
  refine ⟨by rw [h 0 (by omega)]; exact h1, h2, h3, h4, h5, fun i hi => ?_, fun t t1 t2 t3 => ?_⟩
  · have := (h3 i (by omega)).1
    rw [h _ (by omega)]
    exact h6 i hi
  · rw [h t t2] at t3
    exact h7 t t1 t2 t3
theorem GO_cg {σ : am_S} {X X' : Row} (h : ∀ t, t ≤ 300 → X' t = X t) (hG : GO σ X) : GO σ X' := fun t ht => by rw [gn_cg h t ht]; exact hG t ht
theorem WA_cg {X X' : Row} (h : ∀ j, 6401 ≤ j → j ≤ 6420 → X' j = X j) (hA : WA X) : WA X' := by
  refine ⟨fun a ha => ?_, fun a b ha hb hab => ?_⟩
  · rw [h (6401 + a) (by omega) (by omega), h (6405 + a) (by omega) (by omega), h (6409 + a) (by omega) (by omega), h (6413 + a) (by omega) (by omega), h (6417 + a) (by omega) (by omega)]
    exact hA.1 a ha
  · rw [h (6405 + a) (by omega) (by omega), h (6401 + b) (by omega) (by omega), h (6405 + b) (by omega) (by omega), h (6401 + a) (by omega) (by omega)]
    exact hA.2 a b ha hb hab
theorem AO_cg {σ : am_S} {X X' : Row} (h : ∀ j, 6401 ≤ j → j ≤ 6420 → X' j = X j) (hA : AO σ X) : AO σ X' := fun a ha => by
  rw [h (6401 + a) (by omega) (by omega), h (6405 + a) (by omega) (by omega), h (6409 + a) (by omega) (by omega), h (6413 + a) (by omega) (by omega), h (6417 + a) (by omega) (by omega)]
  exact hA a ha
theorem WT_cg {X X' : Row} (h : ∀ j, 301 ≤ j → j ≤ 6400 → X' j = X j) (hm : X' 6423 = X 6423) (hT : WT X) : WT X' := by
  have h0 := hT.1
  refine ⟨by rw [hm]; exact hT.1, fun k hk => ?_⟩
  rw [hm] at hk
  obtain ⟨a1, a2, a3, a4, a5⟩ := hT.2 k hk
  rw [h (301 + k) (by omega) (by omega), h (321 + k) (by omega) (by omega), h (341 + k) (by omega) (by omega), h (361 + k) (by omega) (by omega)]
  exact ⟨a1, a2, a3, a4, fun t ht => by rw [h _ (by omega) (by omega)]; exact a5 t ht⟩
theorem TO_cg {σ : am_S} {X X' : Row} (h : ∀ j, 301 ≤ j → j ≤ 380 → X' j = X j) (hm : X' 6423 = X 6423) (hT : WT X) (hO : TO σ X) : TO σ X' := by
  have h0 := hT.1
  refine ⟨by rw [hm]; exact hO.1, fun k hk => ?_⟩
  rw [hm] at hk
  rw [h (301 + k) (by omega) (by omega), h (321 + k) (by omega) (by omega), h (341 + k) (by omega) (by omega), h (361 + k) (by omega) (by omega)]
  exact hO.2 k hk
theorem SN_cg {σ : am_S} {X X' : Row} (h : ∀ j, 381 ≤ j → j ≤ 6400 → X' j = X j) (hm : X' 6423 = X 6423) (hT : WT X) (hO : SN σ X) : SN σ X' := by
  have h0 := hT.1
  intro k hk t ht
  rw [hm] at hk
  rw [hO k hk t ht]
  apply decide_eq_decide.mpr
  by_cases q : t ≤ 300
  · rw [h _ (by omega) (by omega)]
  · constructor <;> intro z <;> omega
theorem WN_cg {X X' : Row} (h1 : X' 6421 = X 6421) (h2 : X' 6422 = X 6422) (hN : WN X) : WN X' := by
  unfold WN
  rw [h1, h2]
  exact hN
theorem SN.eq {σ σ' : am_S} {X : Row} (h : ∀ j, j < 100 → σ'.2 12 j = σ.2 12 j) (hT : WT X) (hO : SN σ X) : SN σ' X := fun k hk t ht => by
  rw [← hO k hk t ht]
  have := hT.1
  unfold sbA
  rw [h _ (by omega)]
theorem CS.eq {σ σ' : am_S} {X : Row} (h : ∀ a, 2 ≤ a → a < 19 → σ'.1 a = σ.1 a) (h2 : σ'.2 12 = σ.2 12) (hC : CS σ X) : CS σ' X := by
  obtain ⟨c1, c2, c3, c4, c5, c6, c7⟩ := hC
  refine ⟨?_, ?_, ?_, ?_, ?_, ?_, ?_⟩
  · unfold BO
    rw [h 3 (by omega) (by omega), h 4 (by omega) (by omega), h 5 (by omega) (by omega)]
    exact c1
  · unfold GO
    rw [h 6 (by omega) (by omega)]
    exact c2
  · unfold TO
    rw [h 7 (by omega) (by omega), h 8 (by omega) (by omega), h 9 (by omega) (by omega), h 10 (by omega) (by omega), h 11 (by omega) (by omega)]
    exact c3
  · unfold AO
    rw [h 14 (by omega) (by omega), h 15 (by omega) (by omega), h 16 (by omega) (by omega), h 17 (by omega) (by omega), h 18 (by omega) (by omega)]
    exact c4
  · unfold SN sbA
    rw [h2]
    exact c5
  · rw [h 2 (by omega) (by omega)]
    exact c6
  · rw [h 2 (by omega) (by omega)]
    exact c7
/-- the belt aside, the same -/
theorem CS.cgB {σ σ' : am_S} {X X' : Row} (hσ : ∀ a, 2 ≤ a → a < 19 → a ∉ [3, 4, 5, 6] → σ'.1 a = σ.1 a) (h2 : σ'.2 12 = σ.2 12) (hX : ∀ j, 301 ≤ j → X' j = X j) (hT : WT X) (hC : CS σ X) (hB : BO σ' X') (hG : GO σ' X') : CS σ' X' := by
  obtain ⟨c1, c2, c3, c4, c5, c6, c7⟩ := hC
  refine ⟨hB, hG, TO_cg (fun j h1 _ => hX j h1) (hX _ (by omega)) hT ?_, AO_cg (fun j h1 _ => hX j (by omega)) ?_, SN_cg (fun j h1 _ => hX j (by omega)) (hX _ (by omega)) hT ?_, ?_, ?_⟩
  · unfold TO
    rw [hσ 7 (by omega) (by omega) (by decide), hσ 8 (by omega) (by omega) (by decide), hσ 9 (by omega) (by omega) (by decide), hσ 10 (by omega) (by omega) (by decide), hσ 11 (by omega) (by omega) (by decide)]
    exact c3
  · unfold AO
    rw [hσ 14 (by omega) (by omega) (by decide), hσ 15 (by omega) (by omega) (by decide), hσ 16 (by omega) (by omega) (by decide), hσ 17 (by omega) (by omega) (by decide), hσ 18 (by omega) (by omega) (by decide)]
    exact c4
  · unfold SN sbA
    rw [h2]
    exact c5
  · rw [hσ 2 (by omega) (by omega) (by decide), hX 6421 (by omega)]
    exact c6
  · rw [hσ 2 (by omega) (by omega) (by decide), hX 6422 (by omega)]
    exact c7
/-- the THINGS aside, the same -/
theorem CS.cgT {σ σ' : am_S} {X X' : Row} (hσ : ∀ a, 2 ≤ a → a < 19 → a ∉ [7, 8, 9, 10, 11] → σ'.1 a = σ.1 a) (hX : ∀ j, j ≤ 300 ∨ (6401 ≤ j ∧ j ≤ 6422) → X' j = X j) (hC : CS σ X) (hT : TO σ' X') (hS : SN σ' X') : CS σ' X' := by
  obtain ⟨c1, c2, c3, c4, c5, c6, c7⟩ := hC
  refine ⟨BO_cg (fun j h1 => hX j (Or.inl h1)) ?_, GO_cg (fun j h1 => hX j (Or.inl h1)) ?_, hT, AO_cg (fun j h1 h2 => hX j (Or.inr ⟨h1, by omega⟩)) ?_, hS, ?_, ?_⟩
  · unfold BO
    rw [hσ 3 (by omega) (by omega) (by decide), hσ 4 (by omega) (by omega) (by decide), hσ 5 (by omega) (by omega) (by decide)]
    exact c1
  · unfold GO
    rw [hσ 6 (by omega) (by omega) (by decide)]
    exact c2
  · unfold AO
    rw [hσ 14 (by omega) (by omega) (by decide), hσ 15 (by omega) (by omega) (by decide), hσ 16 (by omega) (by omega) (by decide), hσ 17 (by omega) (by omega) (by decide), hσ 18 (by omega) (by omega) (by decide)]
    exact c4
  · rw [hσ 2 (by omega) (by omega) (by decide), hX 6421 (by omega)]
    exact c6
  · rw [hσ 2 (by omega) (by omega) (by decide), hX 6422 (by omega)]
    exact c7
-- ===== a THING that is new =====
def zrS (σ : am_S) (n i : Nat) : am_S := (σ.1, fun a j => if a = 12 ∧ 5 * n ≤ j ∧ j < 5 * n + i then 0 else σ.2 a j)
theorem zrS_0 {σ : am_S} {n : Nat} : zrS σ n 0 = σ := by
  unfold zrS
  refine Prod.ext rfl ?_
  funext a j
  exact if_neg (by omega)
theorem zrS_s {σ : am_S} {n i : Nat} : am_upL (zrS σ n i) 12 (5 * n + i) 0 = zrS σ n (i + 1) := by
  refine Prod.ext rfl ?_
  funext a j
  show (if a = 12 ∧ j = 5 * n + i then (0 : Int64) else if a = 12 ∧ 5 * n ≤ j ∧ j < 5 * n + i then 0 else σ.2 a j) = if a = 12 ∧ 5 * n ≤ j ∧ j < 5 * n + (i + 1) then 0 else σ.2 a j
  by_cases h : a = 12 ∧ j = 5 * n + i
  · rw [if_pos h, if_pos (by omega)]
  · rw [if_neg h]
    by_cases h2 : a = 12 ∧ 5 * n ≤ j ∧ j < 5 * n + i
    · rw [if_pos h2, if_pos (by omega)]
    · rw [if_neg h2, if_neg (by omega)]
def apS (σ : am_S) (n t : Nat) (lane place kind : Int) : am_S := am_up (mkS (zrS (am_up (am_up (am_up (am_up σ 8 n t) 9 n lane) 10 n place) 11 n kind) n 5) n t) 7 0 ((n : Int) + 1)
theorem l_append {σ : am_S} {n t : Nat} {lane place kind : Int} (hn : n < 20) (hc : σ.1 7 0 = (n : Nat)) (ht : t ≤ 300) : ∀ i, i ≤ 5 → AW am_tab mX4_append 59 [some (vR 7), some (vI (t : Nat)), some (vI lane), some (vI place), some (vI kind), some (vI ((5 * n + i : Nat) : Int))] [] (zrS (am_up (am_up (am_up (am_up σ 8 n t) 9 n lane) 10 n place) 11 n kind) n i) (QV (fun σ' => σ' = apS σ n t lane place kind)) :=
  up_loop (fun i hi ih => by
    have h7 : (zrS (am_up (am_up (am_up (am_up σ 8 n t) 9 n lane) 10 n place) 11 n kind) n i).1 7 0 = (n : Nat) := hc
    refine AW_iload dX4_append_59 rfl ?_
    refine AW_aload_n dX4_append_61 rfl ?_
    refine AW_get dX4_append_62 fX4_11 rfl rfl ?_
    refine AW_iconst dX4_append_65 ?_
    refine AW_iadd dX4_append_66 ?_
    refine AW_iconst dX4_append_67 ?_
    refine AW_imul dX4_append_68 ?_
    refine AW_icmp_ge 86 dX4_append_69 (by decide) (by omega) (by omega) (fun h69 => ?_) (fun h69 => ?_)
    · have e : i = 5 := by omega
      subst e
      refine AW_aload_n dX4_append_86 rfl ?_
      refine AW_aload_n dX4_append_87 rfl ?_
      refine AW_get dX4_append_88 fX4_11 rfl rfl ?_
      rw [h7]
      refine AW_iload_n dX4_append_91 rfl ?_
      refine AW_cVV2 dX4_append_92 kX4_38 (am_fit_b rfl) rfl rfl (Nat.le_of_ble_eq_true rfl) (c_markSeen hn ht) (fun σ' hq2 => ?_)
      replace hq2 := hq2.symm
      subst hq2
      refine AW_aload_n dX4_append_95 rfl ?_
      first | refine AW_dupR dX4_append_96 ?_ | refine AW_dupI dX4_append_96 ?_
      refine AW_get dX4_append_97 fX4_11 rfl rfl ?_
      refine AW_iconst dX4_append_100 ?_
      refine AW_iadd dX4_append_101 ?_
      refine AW_put dX4_append_102 pX4_11 rfl rfl rfl rfl ?_
      refine AW_vret dX4_append_105 rfl ?_
      refine ⟨rfl, ?_⟩
      unfold apS
      rw [← hc]
      rfl
    · have hi5 : i < 5 := by omega
      refine AW_aload_n dX4_append_72 rfl ?_
      refine AW_get dX4_append_73 fX4_28 rfl rfl ?_
      refine AW_iload dX4_append_76 rfl ?_
      refine AW_lconst (v := 0) dX4_append_78 rfl ?_
      refine AW_lastN (j := 5 * n + i) dX4_append_79 rfl (Nat.le_of_ble_eq_true rfl) (by omega) (by omega) ?_
      refine AW_iinc (lv' := [_, _, _, _, _, _]) dX4_append_80 rfl (by decide) rfl ?_
      refine AW_goto (tgt := 59) dX4_append_83 (by decide) ?_
      rw [zrS_s]
      rw [show ((5 * n + i : Nat) : Int) + 1 = ((5 * n + (i + 1) : Nat) : Int) by omega]
      exact ih (by omega))
theorem c_append {σ : am_S} {n t : Nat} {lane place kind : Int} (hn : n < 20) (hc : σ.1 7 0 = (n : Nat)) (ht : t ≤ 300) : Runs am_tab mX4_append [vR 7, vI t, vI lane, vI place, vI kind] σ (QV (fun σ' => σ' = apS σ n t lane place kind)) := by
  refine Runs.of (by decide) rfl (by simp) (Nat.le_of_ble_eq_true rfl) ?_
  show AW am_tab mX4_append 0 [some (vR 7), some (vI t), some (vI lane), some (vI place), some (vI kind), none] [] σ _
  refine AW_aload_n dX4_append_0 rfl ?_
  refine AW_get dX4_append_1 fX4_11 rfl rfl ?_
  refine AW_bipush dX4_append_4 (by decide) ?_
  refine AW_icmp_lt 10 dX4_append_6 (by decide) (by omega) (by omega) (fun h6 => ?_) (fun h6 => ?_)
  · refine AW_aload_n dX4_append_10 rfl ?_
    refine AW_get dX4_append_11 fX4_15 rfl rfl ?_
    refine AW_aload_n dX4_append_14 rfl ?_
    refine AW_get dX4_append_15 fX4_11 rfl rfl ?_
    refine AW_iload_n dX4_append_18 rfl ?_
    refine AW_iastN (j := n) dX4_append_19 rfl (Nat.le_of_ble_eq_true rfl) (by omega) (by omega) ?_
    refine AW_aload_n dX4_append_20 rfl ?_
    refine AW_get dX4_append_21 fX4_19 rfl rfl ?_
    refine AW_aload_n dX4_append_24 rfl ?_
    refine AW_get dX4_append_25 fX4_11 rfl rfl ?_
    refine AW_iload_n dX4_append_28 rfl ?_
    refine AW_iastN (j := n) dX4_append_29 rfl (Nat.le_of_ble_eq_true rfl) (by rw [am_up_other (by decide)]; omega) (by omega) ?_
    refine AW_aload_n dX4_append_30 rfl ?_
    refine AW_get dX4_append_31 fX4_22 rfl rfl ?_
    refine AW_aload_n dX4_append_34 rfl ?_
    refine AW_get dX4_append_35 fX4_11 rfl rfl ?_
    refine AW_iload_n dX4_append_38 rfl ?_
    refine AW_iastN (j := n) dX4_append_39 rfl (Nat.le_of_ble_eq_true rfl) (by rw [am_up_other (by decide), am_up_other (by decide)]; omega) (by omega) ?_
    refine AW_aload_n dX4_append_40 rfl ?_
    refine AW_get dX4_append_41 fX4_25 rfl rfl ?_
    refine AW_aload_n dX4_append_44 rfl ?_
    refine AW_get dX4_append_45 fX4_11 rfl rfl ?_
    refine AW_iload dX4_append_48 rfl ?_
    refine AW_iastN (j := n) dX4_append_50 rfl (Nat.le_of_ble_eq_true rfl) (by rw [am_up_other (by decide), am_up_other (by decide), am_up_other (by decide)]; omega) (by omega) ?_
    refine AW_aload_n dX4_append_51 rfl ?_
    refine AW_get dX4_append_52 fX4_11 rfl rfl ?_
    refine AW_iconst dX4_append_55 ?_
    refine AW_imul dX4_append_56 ?_
    refine AW_istore (lv' := [_, _, _, _, _, _]) dX4_append_57 (by decide) (Nat.le_of_ble_eq_true rfl) rfl ?_
    have e : (am_up (am_up (am_up (am_up σ 8 n t) 9 n lane) 10 n place) 11 n kind).1 7 0 * 5 = ((5 * n + 0 : Nat) : Int) := by
      show σ.1 7 0 * 5 = _
      omega
    rw [e]
    have h9 := l_append (lane := lane) (place := place) (kind := kind) hn hc ht 0 (by omega)
    rw [zrS_0] at h9
    exact h9
  · refine AW_vret dX4_append_9 rfl ?_
    exfalso
    omega
theorem apS_off {σ : am_S} {n t : Nat} {lane place kind : Int} {a : Nat} (h : a ∉ [7, 8, 9, 10, 11]) : (apS σ n t lane place kind).1 a = σ.1 a := by
  simp only [List.mem_cons, List.not_mem_nil, or_false, not_or] at h
  unfold apS
  rw [am_up_other (by omega), mkS_1]
  show (am_up (am_up (am_up (am_up σ 8 n t) 9 n lane) 10 n place) 11 n kind).1 a = _
  rw [am_up_other (by omega), am_up_other (by omega), am_up_other (by omega), am_up_other (by omega)]
theorem apS_off2 {σ : am_S} {n t : Nat} {lane place kind : Int} {a : Nat} (h : a ≠ 12) : (apS σ n t lane place kind).2 a = σ.2 a := by
  show (mkS (zrS (am_up (am_up (am_up (am_up σ 8 n t) 9 n lane) 10 n place) 11 n kind) n 5) n t).2 a = _
  rw [mkS_2 h]
  funext j
  show (if a = 12 ∧ _ then (0 : Int64) else σ.2 a j) = _
  exact if_neg (fun e => h e.1)
theorem apS_7 {σ : am_S} {n t : Nat} {lane place kind : Int} : (apS σ n t lane place kind).1 7 0 = (n : Int) + 1 := rfl
theorem apS_rows {σ : am_S} {n t : Nat} {lane place kind : Int} {k : Nat} : (apS σ n t lane place kind).1 8 k = (if k = n then (t : Int) else σ.1 8 k) ∧ (apS σ n t lane place kind).1 9 k = (if k = n then lane else σ.1 9 k) ∧ (apS σ n t lane place kind).1 10 k = (if k = n then place else σ.1 10 k) ∧ (apS σ n t lane place kind).1 11 k = (if k = n then kind else σ.1 11 k) := by
  unfold apS
  refine ⟨?_, ?_, ?_, ?_⟩
  · rw [am_up_other (by decide), mkS_1]
    show (am_up (am_up (am_up (am_up σ 8 n t) 9 n lane) 10 n place) 11 n kind).1 8 k = _
    rw [am_up_other (by decide), am_up_other (by decide), am_up_other (by decide), am_up_same]
    rfl
  · rw [am_up_other (by decide), mkS_1]
    show (am_up (am_up (am_up (am_up σ 8 n t) 9 n lane) 10 n place) 11 n kind).1 9 k = _
    rw [am_up_other (by decide), am_up_other (by decide), am_up_same, am_up_other (by decide)]
    rfl
  · rw [am_up_other (by decide), mkS_1]
    show (am_up (am_up (am_up (am_up σ 8 n t) 9 n lane) 10 n place) 11 n kind).1 10 k = _
    rw [am_up_other (by decide), am_up_same, am_up_other (by decide), am_up_other (by decide)]
    rfl
  · rw [am_up_other (by decide), mkS_1]
    show (am_up (am_up (am_up (am_up σ 8 n t) 9 n lane) 10 n place) 11 n kind).1 11 k = _
    rw [am_up_same, am_up_other (by decide), am_up_other (by decide), am_up_other (by decide)]
    rfl
theorem apS_bit {σ : am_S} {n t : Nat} {lane place kind : Int} {k u : Nat} (hu : u < 320) (ht : t ≤ 300) : sbA (apS σ n t lane place kind) k u = if k = n then decide (u = t) else sbA σ k u := by
  have e : sbA (apS σ n t lane place kind) k u = sbA (mkS (zrS (am_up (am_up (am_up (am_up σ 8 n t) 9 n lane) 10 n place) 11 n kind) n 5) n t) k u := rfl
  rw [e, mkS_bit hu ht]
  by_cases h : k = n
  · subst h
    rw [if_pos rfl]
    have e2 : sbA (zrS (am_up (am_up (am_up (am_up σ 8 k t) 9 k lane) 10 k place) 11 k kind) k 5) k u = false := by
      unfold sbA
      have e3 : (zrS (am_up (am_up (am_up (am_up σ 8 k t) 9 k lane) 10 k place) 11 k kind) k 5).2 12 (5 * k + u / 64) = 0 := if_pos (by omega)
      rw [e3, sb_0]
    rw [e2, Bool.false_or]
    apply decide_eq_decide.mpr
    omega
  · rw [if_neg h]
    have e2 : sbA (zrS (am_up (am_up (am_up (am_up σ 8 n t) 9 n lane) 10 n place) 11 n kind) n 5) k u = sbA σ k u := by
      unfold sbA
      have e3 : (zrS (am_up (am_up (am_up (am_up σ 8 n t) 9 n lane) 10 n place) 11 n kind) n 5).2 12 (5 * k + u / 64) = σ.2 12 (5 * k + u / 64) := if_neg (by omega)
      rw [e3]
    rw [e2]
    have : decide (k = n ∧ u = t) = false := decide_eq_false (fun e => h e.1)
    rw [this, Bool.or_false]
theorem newX_b {X : Row} {t : Nat} {lane place kind : Int} {n : Nat} (hm : X 6423 = (n : Nat)) (hn : n < 20) {j : Nat} (hj : j ≤ 300 ∨ (6401 ≤ j ∧ j ≤ 6422)) (ht : t ≤ 300) : newX X t lane place kind j = X j := by
  unfold newX
  rw [hm, Int.toNat_natCast]
  rw [if_neg (by omega), if_neg (by omega), if_neg (by omega), if_neg (by omega), if_neg (by omega), if_neg (by omega), if_neg (by omega)]
theorem newX_m {X : Row} {t : Nat} {lane place kind : Int} : newX X t lane place kind 6423 = X 6423 + 1 := if_pos rfl
theorem newX_t {X : Row} {t : Nat} {lane place kind : Int} {n : Nat} (hm : X 6423 = (n : Nat)) (hn : n < 20) {k : Nat} (hk : k ≤ n) (ht : t ≤ 300) : newX X t lane place kind (301 + k) = (if k = n then (t : Int) else X (301 + k)) ∧ newX X t lane place kind (321 + k) = (if k = n then lane else X (321 + k)) ∧ newX X t lane place kind (341 + k) = (if k = n then place else X (341 + k)) ∧ newX X t lane place kind (361 + k) = (if k = n then kind else X (361 + k)) := by
  unfold newX
  rw [hm, Int.toNat_natCast]
  by_cases e : k = n
  · subst e
    simp only [if_true]
    refine ⟨?_, ?_, ?_, ?_⟩
    · rw [if_neg (by omega), if_neg (by omega), if_neg (by omega), if_neg (by omega), if_neg (by omega), if_neg (by omega)]
    · rw [if_neg (by omega), if_neg (by omega), if_neg (by omega), if_neg (by omega), if_neg (by omega)]
    · rw [if_neg (by omega), if_neg (by omega), if_neg (by omega), if_neg (by omega)]
    · rw [if_neg (by omega), if_neg (by omega), if_neg (by omega)]
  · simp only [if_neg e]
    refine ⟨?_, ?_, ?_, ?_⟩ <;> rw [if_neg (by omega), if_neg (by omega), if_neg (by omega), if_neg (by omega), if_neg (by omega), if_neg (by omega), if_neg (by omega)]
theorem newX_s {X : Row} {t : Nat} {lane place kind : Int} {n : Nat} (hm : X 6423 = (n : Nat)) (hn : n < 20) {k u : Nat} (hk : k ≤ n) (hu : u ≤ 300) (ht : t ≤ 300) : newX X t lane place kind (381 + 301 * k + u) = if k = n then (if u = t then 1 else 0) else X (381 + 301 * k + u) := by
  unfold newX
  rw [hm, Int.toNat_natCast]
  by_cases e : k = n
  · subst e
    rw [if_pos rfl, if_neg (by omega)]
    by_cases e2 : u = t
    · rw [if_pos (by omega), if_pos e2]
    · rw [if_neg (by omega), if_neg e2, if_pos (by omega)]
  · rw [if_neg e]
    rw [if_neg (by omega), if_neg (by omega), if_neg (by omega), if_neg (by omega), if_neg (by omega), if_neg (by omega), if_neg (by omega)]
theorem WX_new {X : Row} (h : WX X) {t : Nat} {lane place kind : Int} {n : Nat} (hm : X 6423 = (n : Nat)) (hn : n < 20) (ht : t ≤ 300) (hl : 0 ≤ lane ∧ lane ≤ 3) (hp : 0 ≤ place ∧ place ≤ 60) (hk : 0 ≤ kind ∧ kind ≤ 2) : WX (newX X t lane place kind) := by
  obtain ⟨w1, w2, w3, w4⟩ := h
  refine ⟨WS_cg (fun j hj => newX_b hm hn (Or.inl hj) ht) w1, ⟨by rw [newX_m]; omega, fun k hk2 => ?_⟩, WA_cg (fun j h1 h2 => newX_b hm hn (Or.inr ⟨h1, by omega⟩) ht) w3, WN_cg (newX_b hm hn (by omega) ht) (newX_b hm hn (by omega) ht) w4⟩
  rw [newX_m] at hk2
  obtain ⟨e1, e2, e3, e4⟩ := newX_t (lane := lane) (place := place) (kind := kind) hm hn (k := k) (by omega) ht
  rw [e1, e2, e3, e4]
  by_cases e : k = n
  · simp only [if_pos e]
    refine ⟨by omega, hl, hp, hk, fun u hu => ?_⟩
    rw [newX_s hm hn (by omega) hu ht, if_pos e]
    split <;> omega
  · simp only [if_neg e]
    obtain ⟨a1, a2, a3, a4, a5⟩ := w2.2 k (by omega)
    refine ⟨a1, a2, a3, a4, fun u hu => ?_⟩
    rw [newX_s hm hn (by omega) hu ht, if_neg e]
    exact a5 u hu
theorem CS_new {σ : am_S} {X : Row} (h : WX X) (hC : CS σ X) {t : Nat} {lane place kind : Int} {n : Nat} (hm : X 6423 = (n : Nat)) (hn : n < 20) (ht : t ≤ 300) : CS (apS σ n t lane place kind) (newX X t lane place kind) := by
  obtain ⟨w1, w2, w3, w4⟩ := h
  have hC0 := hC
  obtain ⟨c1, c2, c3, c4, c5, c6, c7⟩ := hC
  refine CS.cgT (σ := σ) (X := X) (fun a _ _ ha => apS_off ha) (fun j hj => newX_b hm hn hj ht) hC0 ⟨?_, fun k hk => ?_⟩ (fun k hk u hu => ?_)
  · rw [apS_7, newX_m, hm]
  · rw [newX_m] at hk
    obtain ⟨e1, e2, e3, e4⟩ := newX_t (lane := lane) (place := place) (kind := kind) hm hn (k := k) (by omega) ht
    obtain ⟨g1, g2, g3, g4⟩ := apS_rows (σ := σ) (n := n) (t := t) (lane := lane) (place := place) (kind := kind) (k := k)
    rw [e1, e2, e3, e4, g1, g2, g3, g4]
    by_cases e : k = n
    · simp only [if_pos e, and_self]
    · simp only [if_neg e]
      exact c3.2 k (by omega)
  · rw [newX_m] at hk
    rw [apS_bit hu ht]
    by_cases e : k = n
    · rw [if_pos e]
      apply decide_eq_decide.mpr
      by_cases q : u ≤ 300
      · rw [newX_s hm hn (by omega) q ht, if_pos e]
        by_cases e2 : u = t
        · rw [if_pos e2]; omega
        · rw [if_neg e2]; omega
      · omega
    · rw [if_neg e, c5 k (by omega) u hu]
      apply decide_eq_decide.mpr
      by_cases q : u ≤ 300
      · rw [newX_s hm hn (by omega) q ht, if_neg e]
      · omega
