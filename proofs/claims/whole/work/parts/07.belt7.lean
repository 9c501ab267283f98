/-! ===== what the document says of the belt, over the reference's row X: place t holds the SPEED that a CHANGE tells at TICK t, or less than 0 ===== -/
abbrev Row : Type := Nat → Int
def spAt (X : Row) : Nat → Int
  | 0 => X 0
  | t + 1 => if X (t + 1) < 0 then spAt X t else X (t + 1)
def gn (X : Row) : Nat → Int
  | 0 => 0
  | t + 1 => gn X t + spAt X t
def chg (X : Row) : Nat → Int
  | 0 => 0
  | t + 1 => chg X t + (if X (t + 1) < 0 then 0 else 1)
def WS (X : Row) : Prop := 0 ≤ X 0 ∧ ∀ t, t ≤ 300 → -6 ≤ X t ∧ X t ≤ 9
theorem spAt_b {X : Row} (h : WS X) : ∀ t, t ≤ 300 → 0 ≤ spAt X t ∧ spAt X t ≤ 9 := by
  intro t
  induction t with
  | zero => intro _; exact ⟨h.1, (h.2 0 (by omega)).2⟩
  | succ t ih =>
    intro ht
    have h1 := ih (by omega)
    have h2 := h.2 (t + 1) ht
    simp only [spAt]
    split <;> omega
theorem gn_b {X : Row} (h : WS X) : ∀ t, t ≤ 301 → 0 ≤ gn X t ∧ gn X t ≤ 9 * t := by
  intro t
  induction t with
  | zero => intro _; simp [gn]
  | succ t ih =>
    intro ht
    have h1 := ih (by omega)
    have h2 := spAt_b h t (by omega)
    simp only [gn]
    omega
theorem chg_b {X : Row} : ∀ t, 0 ≤ chg X t ∧ chg X t ≤ t := by
  intro t
  induction t with
  | zero => simp [chg]
  | succ t ih => simp only [chg]; split <;> omega
/-- a row laid anew from its first place on -/
def am_row (σ : am_S) (a n : Nat) (g : Row) : am_S := (fun k j => if k = a ∧ j < n then g j else σ.1 k j, σ.2)
def rup (X : Row) (j : Nat) (x : Int) : Row := fun b => if b = j then x else X b
theorem am_up_same {σ : am_S} {a j : Nat} {x : Int} : (am_up σ a j x).1 a = rup (σ.1 a) j x := by
  funext b
  simp [am_up, rup]
theorem am_up_other {σ : am_S} {a a' j : Nat} {x : Int} (h : a' ≠ a) : (am_up σ a j x).1 a' = σ.1 a' := by
  funext b
  simp [am_up, h]
theorem am_up_long {σ : am_S} {a j : Nat} {x : Int} : (am_up σ a j x).2 = σ.2 := rfl
theorem am_row_other {σ : am_S} {a a' n : Nat} {g : Row} (h : a' ≠ a) : (am_row σ a n g).1 a' = σ.1 a' := by
  funext b
  simp [am_row, h]
theorem am_row_at {σ : am_S} {a n j : Nat} {g : Row} (h : j < n) : (am_row σ a n g).1 a j = g j := by
  simp [am_row, h]
theorem am_row_past {σ : am_S} {a n j : Nat} {g : Row} (h : n ≤ j) : (am_row σ a n g).1 a j = σ.1 a j := by
  have : ¬ j < n := by omega
  simp [am_row, this]
theorem am_row_0 {σ : am_S} {a : Nat} {g : Row} : am_row σ a 0 g = σ := by
  simp [am_row]
theorem am_row_s {σ : am_S} {a n : Nat} {g : Row} {x : Int} (h : x = g n) : am_up (am_row σ a n g) a n x = am_row σ a (n + 1) g := by
  subst h
  refine Prod.ext ?_ rfl
  funext k j
  simp only [am_up, am_row]
  by_cases hk : k = a
  · by_cases hj : j = n
    · simp [hk, hj]
    · have : (j < n + 1) ↔ j < n := by omega
      simp [hk, hj, this]
  · simp [hk]
theorem l_speedAt7 {σ : am_S} (hW : WS (σ.1 71)) {Q : Option am_V → am_S → Prop} {tick : Int} : ∀ t : Nat, t ≤ 300 → Q (some (vI (spAt (σ.1 71) t))) σ → AW am_tab mX7_speedAt 2 [some (vR 70), some (vI tick), some (vI t)] [] σ Q := by
  intro t
  induction t with
  | zero =>
    intro _ hQ
    refine AW_aload_n dX7_speedAt_2 rfl ?_
    refine AW_get dX7_speedAt_3 fX7_7 rfl rfl ?_
    refine AW_iconst dX7_speedAt_6 ?_
    refine AW_iload_n dX7_speedAt_7 rfl ?_
    refine AW_iadd dX7_speedAt_8 ?_
    refine AW_ialdN (j := 0) dX7_speedAt_9 rfl (Nat.le_of_ble_eq_true rfl) (by omega) (by omega) ?_
    have hb := hW.2 0 (by omega)
    refine AW_if_ge 19 dX7_speedAt_10 (by decide) (by omega) (fun h10 => ?_) (fun h10 => ?_)
    · refine AW_aload_n dX7_speedAt_19 rfl ?_
      refine AW_get dX7_speedAt_20 fX7_7 rfl rfl ?_
      refine AW_iconst dX7_speedAt_23 ?_
      refine AW_iload_n dX7_speedAt_24 rfl ?_
      refine AW_iadd dX7_speedAt_25 ?_
      refine AW_ialdN (j := 0) dX7_speedAt_26 rfl (Nat.le_of_ble_eq_true rfl) (by omega) (by omega) ?_
      refine AW_iret dX7_speedAt_27 rfl ?_
      exact hQ
    · refine AW_iinc (lv' := [_, _, _]) dX7_speedAt_13 rfl (by decide) rfl ?_
      refine AW_goto (tgt := 2) dX7_speedAt_16 (by decide) ?_
      exact absurd hW.1 h10
  | succ t ih =>
    intro hT hQ
    refine AW_aload_n dX7_speedAt_2 rfl ?_
    refine AW_get dX7_speedAt_3 fX7_7 rfl rfl ?_
    refine AW_iconst dX7_speedAt_6 ?_
    refine AW_iload_n dX7_speedAt_7 rfl ?_
    refine AW_iadd dX7_speedAt_8 ?_
    refine AW_ialdN (j := t + 1) dX7_speedAt_9 rfl (Nat.le_of_ble_eq_true rfl) (by omega) (by omega) ?_
    have hb := hW.2 (t + 1) hT
    refine AW_if_ge 19 dX7_speedAt_10 (by decide) (by omega) (fun h10 => ?_) (fun h10 => ?_)
    · refine AW_aload_n dX7_speedAt_19 rfl ?_
      refine AW_get dX7_speedAt_20 fX7_7 rfl rfl ?_
      refine AW_iconst dX7_speedAt_23 ?_
      refine AW_iload_n dX7_speedAt_24 rfl ?_
      refine AW_iadd dX7_speedAt_25 ?_
      refine AW_ialdN (j := t + 1) dX7_speedAt_26 rfl (Nat.le_of_ble_eq_true rfl) (by omega) (by omega) ?_
      refine AW_iret dX7_speedAt_27 rfl ?_
      have h10 : ¬ σ.1 71 (t + 1) < 0 := by omega
      simpa [spAt, h10] using hQ
    · refine AW_iinc (lv' := [_, _, _]) dX7_speedAt_13 rfl (by decide) rfl ?_
      refine AW_goto (tgt := 2) dX7_speedAt_16 (by decide) ?_
      rw [show ((t + 1 : Nat) : Int) + (-1) = (t : Int) by omega]
      refine ih (by omega) ?_
      have h10 : σ.1 71 (t + 1) < 0 := by omega
      simpa [spAt, h10] using hQ
theorem c_speedAt7 {σ : am_S} (hW : WS (σ.1 71)) {t : Nat} (ht : t ≤ 300) : Runs am_tab mX7_speedAt [vR 70, vI t] σ (QI (fun z σ' => z = spAt (σ.1 71) t ∧ σ' = σ)) := by
  refine Runs.of (by decide) rfl (by simp) (Nat.le_of_ble_eq_true rfl) ?_
  show AW am_tab mX7_speedAt 0 [some (vR 70), some (vI t), none] [] σ _
  refine AW_iload_n dX7_speedAt_0 rfl ?_
  refine AW_istore_n (i := 2) (lv' := [_, _, _]) dX7_speedAt_1 rfl (by decide) (Nat.le_of_ble_eq_true rfl) rfl ?_
  exact l_speedAt7 hW t ht ⟨_, rfl, rfl, rfl⟩
theorem l_changes7 {σ : am_S} (hW : WS (σ.1 71)) {Q : Option am_V → am_S → Prop} (hQ : Q (some (vI (chg (σ.1 71) 300))) σ) : ∀ n t : Nat, t ≤ 300 → 300 - t ≤ n → AW am_tab mX7_changes 4 [some (vR 70), some (vI (chg (σ.1 71) t)), some (vI (t + 1 : Nat))] [] σ Q := by
  intro n
  induction n with
  | zero =>
    intro t hT hn
    have ih : ∀ t : Nat, t ≤ 300 → False → AW am_tab mX7_changes 4 [some (vR 70), some (vI (chg (σ.1 71) t)), some (vI (t + 1 : Nat))] [] σ Q := fun _ _ h => h.elim
    have hc := chg_b (X := σ.1 71) t
    refine AW_iload_n dX7_changes_4 rfl ?_
    refine AW_sipush dX7_changes_5 (by decide) ?_
    refine AW_icmp_ge 36 dX7_changes_8 (by decide) (by omega) (by omega) (fun h8 => ?_) (fun h8 => ?_)
    · refine AW_iload_n dX7_changes_36 rfl ?_
      refine AW_iret dX7_changes_37 rfl ?_
      have e2 : t = 300 := by omega
      subst e2
      exact hQ
    · refine AW_iload_n dX7_changes_11 rfl ?_
      refine AW_aload_n dX7_changes_12 rfl ?_
      refine AW_get dX7_changes_13 fX7_7 rfl rfl ?_
      refine AW_iconst dX7_changes_16 ?_
      refine AW_iload_n dX7_changes_17 rfl ?_
      refine AW_iadd dX7_changes_18 ?_
      refine AW_ialdN (j := t + 1) dX7_changes_19 rfl (Nat.le_of_ble_eq_true rfl) (by omega) (by omega) ?_
      have hb := hW.2 (t + 1) (by omega)
      refine AW_if_lt 27 dX7_changes_20 (by decide) (by omega) (fun h20 => ?_) (fun h20 => ?_)
      · refine AW_iconst dX7_changes_27 ?_
        refine AW_iadd dX7_changes_28 ?_
        refine AW_istore_n (i := 1) (lv' := [_, _, _]) dX7_changes_29 rfl (by decide) (Nat.le_of_ble_eq_true rfl) rfl ?_
        refine AW_iinc (lv' := [_, _, _]) dX7_changes_30 rfl (by decide) rfl ?_
        refine AW_goto (tgt := 4) dX7_changes_33 (by decide) ?_
        have e1 : ((t + 1 : Nat) : Int) + 1 = ((t + 1 + 1 : Nat) : Int) := by omega
        rw [e1]
        simpa [chg, h20] using ih (t + 1) (by omega) (by omega)
      · refine AW_iconst dX7_changes_23 ?_
        refine AW_goto (tgt := 28) dX7_changes_24 (by decide) ?_
        refine AW_iadd dX7_changes_28 ?_
        refine AW_istore_n (i := 1) (lv' := [_, _, _]) dX7_changes_29 rfl (by decide) (Nat.le_of_ble_eq_true rfl) rfl ?_
        refine AW_iinc (lv' := [_, _, _]) dX7_changes_30 rfl (by decide) rfl ?_
        refine AW_goto (tgt := 4) dX7_changes_33 (by decide) ?_
        have e1 : ((t + 1 : Nat) : Int) + 1 = ((t + 1 + 1 : Nat) : Int) := by omega
        rw [e1]
        simpa [chg, h20] using ih (t + 1) (by omega) (by omega)
  | succ n ih =>
    intro t hT hn
    have hc := chg_b (X := σ.1 71) t
    refine AW_iload_n dX7_changes_4 rfl ?_
    refine AW_sipush dX7_changes_5 (by decide) ?_
    refine AW_icmp_ge 36 dX7_changes_8 (by decide) (by omega) (by omega) (fun h8 => ?_) (fun h8 => ?_)
    · refine AW_iload_n dX7_changes_36 rfl ?_
      refine AW_iret dX7_changes_37 rfl ?_
      have e2 : t = 300 := by omega
      subst e2
      exact hQ
    · refine AW_iload_n dX7_changes_11 rfl ?_
      refine AW_aload_n dX7_changes_12 rfl ?_
      refine AW_get dX7_changes_13 fX7_7 rfl rfl ?_
      refine AW_iconst dX7_changes_16 ?_
      refine AW_iload_n dX7_changes_17 rfl ?_
      refine AW_iadd dX7_changes_18 ?_
      refine AW_ialdN (j := t + 1) dX7_changes_19 rfl (Nat.le_of_ble_eq_true rfl) (by omega) (by omega) ?_
      have hb := hW.2 (t + 1) (by omega)
      refine AW_if_lt 27 dX7_changes_20 (by decide) (by omega) (fun h20 => ?_) (fun h20 => ?_)
      · refine AW_iconst dX7_changes_27 ?_
        refine AW_iadd dX7_changes_28 ?_
        refine AW_istore_n (i := 1) (lv' := [_, _, _]) dX7_changes_29 rfl (by decide) (Nat.le_of_ble_eq_true rfl) rfl ?_
        refine AW_iinc (lv' := [_, _, _]) dX7_changes_30 rfl (by decide) rfl ?_
        refine AW_goto (tgt := 4) dX7_changes_33 (by decide) ?_
        have e1 : ((t + 1 : Nat) : Int) + 1 = ((t + 1 + 1 : Nat) : Int) := by omega
        rw [e1]
        simpa [chg, h20] using ih (t + 1) (by omega) (by omega)
      · refine AW_iconst dX7_changes_23 ?_
        refine AW_goto (tgt := 28) dX7_changes_24 (by decide) ?_
        refine AW_iadd dX7_changes_28 ?_
        refine AW_istore_n (i := 1) (lv' := [_, _, _]) dX7_changes_29 rfl (by decide) (Nat.le_of_ble_eq_true rfl) rfl ?_
        refine AW_iinc (lv' := [_, _, _]) dX7_changes_30 rfl (by decide) rfl ?_
        refine AW_goto (tgt := 4) dX7_changes_33 (by decide) ?_
        have e1 : ((t + 1 : Nat) : Int) + 1 = ((t + 1 + 1 : Nat) : Int) := by omega
        rw [e1]
        simpa [chg, h20] using ih (t + 1) (by omega) (by omega)
theorem c_changes7 {σ : am_S} (hW : WS (σ.1 71)) : Runs am_tab mX7_changes [vR 70] σ (QI (fun z σ' => z = chg (σ.1 71) 300 ∧ σ' = σ)) := by
  refine Runs.of (by decide) rfl (by simp) (Nat.le_of_ble_eq_true rfl) ?_
  show AW am_tab mX7_changes 0 [some (vR 70), none, none] [] σ _
  refine AW_iconst dX7_changes_0 ?_
  refine AW_istore_n (i := 1) (lv' := [_, _, _]) dX7_changes_1 rfl (by decide) (Nat.le_of_ble_eq_true rfl) rfl ?_
  refine AW_iconst dX7_changes_2 ?_
  refine AW_istore_n (i := 2) (lv' := [_, _, _]) dX7_changes_3 rfl (by decide) (Nat.le_of_ble_eq_true rfl) rfl ?_
  exact l_changes7 hW ⟨_, rfl, rfl, rfl⟩ 300 0 (by omega) (by omega)
