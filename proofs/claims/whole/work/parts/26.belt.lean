/-! ===== THE CLASS: its belt ===== -/
/-- behind TICK t less 1: the SPEED, and the next CHANGE, as the class adds up -/
def cst (fs c : Int) (tk sp : Row) : Nat → Int × Nat
  | 0 => (fs, 0)
  | t + 1 => if ((cst fs c tk sp t).2 : Int) < c ∧ tk (cst fs c tk sp t).2 = t then (sp (cst fs c tk sp t).2, (cst fs c tk sp t).2 + 1) else cst fs c tk sp t
def cgn (fs c : Int) (tk sp : Row) : Nat → Int
  | 0 => 0
  | t + 1 => cgn fs c tk sp t + (cst fs c tk sp (t + 1)).1
theorem cst_b {fs c : Int} {tk sp : Row} (hc : 0 ≤ c) : ∀ t, ((cst fs c tk sp t).2 : Int) ≤ c := by
  intro t
  induction t with
  | zero => exact hc
  | succ t ih =>
    simp only [cst]
    split
    · dsimp only; omega
    · exact ih
/-- the class's CHANGES are those of the row X -/
def BeltOK (X : Row) (fs c : Int) (tk sp : Row) : Prop := fs = X 0 ∧ (0 ≤ c ∧ c ≤ 8) ∧ (∀ i, i < 8 → (0 ≤ tk i ∧ tk i ≤ 300) ∧ 0 ≤ sp i ∧ sp i ≤ 9) ∧ (∀ i : Nat, (i : Int) < c → 1 ≤ tk i) ∧ (∀ i j : Nat, i < j → (j : Int) < c → tk i < tk j) ∧ (∀ i : Nat, (i : Int) < c → X (tk i).toNat = sp i) ∧ ∀ t : Nat, 1 ≤ t → t ≤ 300 → 0 ≤ X t → ∃ i : Nat, (i : Int) < c ∧ tk i = t
theorem spAt_last {X : Row} {t0 : Nat} (h0 : t0 = 0 ∨ 0 ≤ X t0) : ∀ t, t0 ≤ t → (∀ u, t0 < u → u ≤ t → X u < 0) → spAt X t = X t0 := by
  intro t
  induction t with
  | zero => intro h _; rw [show t0 = 0 by omega]; rfl
  | succ t ih =>
    intro h hn
    simp only [spAt]
    by_cases e : t0 = t + 1
    · subst e
      rcases h0 with z | z
      · omega
      · rw [if_neg (by omega)]
    · rw [if_pos (hn (t + 1) (by omega) (by omega))]
      exact ih (by omega) (fun u h1 h2 => hn u h1 (by omega))
theorem cst_inv {X : Row} {fs c : Int} {tk sp : Row} (h : BeltOK X fs c tk sp) : ∀ t, t ≤ 301 → (∀ i, i < (cst fs c tk sp t).2 → tk i < t) ∧ (∀ i : Nat, (cst fs c tk sp t).2 ≤ i → (i : Int) < c → (t : Int) ≤ tk i) ∧ (t = 0 ∧ (cst fs c tk sp t).1 = fs ∨ ∃ u, t = u + 1 ∧ (cst fs c tk sp t).1 = spAt X u) := by
  obtain ⟨h1, h2, h3, h4, h5, h6, h7⟩ := h
  intro t
  induction t with
  | zero => intro _; exact ⟨fun i hi => absurd hi (Nat.not_lt_zero _), fun i _ hi => by have := h4 i hi; omega, Or.inl ⟨rfl, rfl⟩⟩
  | succ t ih =>
    intro ht
    obtain ⟨a, b, d⟩ := ih (by omega)
    have hcb := cst_b (fs := fs) (tk := tk) (sp := sp) h2.1 t
    by_cases hm : ((cst fs c tk sp t).2 : Int) < c ∧ tk (cst fs c tk sp t).2 = t
    · have e : cst fs c tk sp (t + 1) = (sp (cst fs c tk sp t).2, (cst fs c tk sp t).2 + 1) := by simp only [cst]; rw [if_pos hm]
      rw [e]
      dsimp only
      refine ⟨fun i hi => ?_, fun i hi hic => ?_, Or.inr ⟨t, rfl, ?_⟩⟩
      · by_cases z : i = (cst fs c tk sp t).2
        · rw [z, hm.2]; omega
        · have := a i (by omega); omega
      · have := h5 (cst fs c tk sp t).2 i (by omega) hic
        omega
      · have g1 := h4 _ hm.1
        have g2 := h6 _ hm.1
        rw [hm.2, Int.toNat_natCast] at g2
        have g3 := (h3 (cst fs c tk sp t).2 (by omega)).2
        rw [← g2]
        symm
        exact spAt_last (Or.inr (by omega)) t (Nat.le_refl _) (fun u hu1 hu2 => by omega)
    · have e : cst fs c tk sp (t + 1) = cst fs c tk sp t := by simp only [cst]; rw [if_neg hm]
      rw [e]
      have hgt : ∀ i : Nat, (cst fs c tk sp t).2 ≤ i → (i : Int) < c → (t : Int) < tk i := by
        intro i hi hic
        have g := b i hi hic
        by_cases z : i = (cst fs c tk sp t).2
        · have : tk (cst fs c tk sp t).2 ≠ t := fun q => hm ⟨by omega, q⟩
          rw [z] at g ⊢
          omega
        · have g2 := h5 (cst fs c tk sp t).2 i (by omega) hic
          have g3 := b (cst fs c tk sp t).2 (Nat.le_refl _) (by omega)
          omega
      refine ⟨fun i hi => by have := a i hi; omega, fun i hi hic => by have := hgt i hi hic; omega, Or.inr ⟨t, rfl, ?_⟩⟩
      rcases d with ⟨z, hz⟩ | ⟨u, z, hz⟩
      · subst z; rw [hz, h1]; rfl
      · subst z
        rw [hz]
        have hneg : X (u + 1) < 0 := by
          by_cases q : X (u + 1) < 0
          · exact q
          · obtain ⟨i, hi, hti⟩ := h7 (u + 1) (by omega) (by omega) (by omega)
            by_cases r : i < (cst fs c tk sp (u + 1)).2
            · have := a i r; omega
            · have := hgt i (by omega) hi; omega
        simp only [spAt]
        rw [if_pos hneg]
theorem cgn_gn {X : Row} {fs c : Int} {tk sp : Row} (h : BeltOK X fs c tk sp) : ∀ t, t ≤ 301 → cgn fs c tk sp t = gn X t := by
  intro t
  induction t with
  | zero => intro _; rfl
  | succ t ih =>
    intro ht
    simp only [cgn, gn]
    rw [ih (by omega)]
    rcases (cst_inv h (t + 1) ht).2.2 with ⟨z, _⟩ | ⟨u, z, hz⟩
    · omega
    · have : u = t := by omega
      subst this
      rw [hz]
theorem l_addUp {T : List am_C} {σ : am_S} {b t s g : Nat} (hb : T[b]? = some (.inl (1, [none, none, some t, some s, some g]))) (ht : T[t]? = some (.inr (.inl (0, 8)))) (hs : T[s]? = some (.inr (.inl (0, 8)))) (hg : T[g]? = some (.inr (.inl (0, 301)))) (hbg : b ≠ g) (htg : t ≠ g) (hsg : s ≠ g) (hc : 0 ≤ σ.1 b 1 ∧ σ.1 b 1 ≤ 8) (htk : ∀ i, i < 8 → 0 ≤ σ.1 t i ∧ σ.1 t i ≤ 300) {Q : Option am_V → am_S → Prop} (hQ : Q none (am_row σ g 301 (cgn (σ.1 b 0) (σ.1 b 1) (σ.1 t) (σ.1 s)))) : ∀ i : Nat, i ≤ 301 → AW T mX1_addUp 12 [some (vR b), some (vI (cgn (σ.1 b 0) (σ.1 b 1) (σ.1 t) (σ.1 s) i)), some (vI (cst (σ.1 b 0) (σ.1 b 1) (σ.1 t) (σ.1 s) i).1), some (vI ((cst (σ.1 b 0) (σ.1 b 1) (σ.1 t) (σ.1 s) i).2 : Nat)), some (vI (i : Nat))] [] (am_row σ g i (cgn (σ.1 b 0) (σ.1 b 1) (σ.1 t) (σ.1 s))) Q :=
  up_loop (fun i hi ih => by
    have hcb := cst_b (fs := σ.1 b 0) (tk := σ.1 t) (sp := σ.1 s) hc.1 i
    refine AW_iload dX1_addUp_12 rfl ?_
    refine AW_sipush dX1_addUp_14 (by decide) ?_
    refine AW_icmp_ge 67 dX1_addUp_17 (by decide) (by omega) (by omega) (fun h17 => ?_) (fun h17 => ?_)
    · refine AW_vret dX1_addUp_67 rfl ?_
      have e : i = 301 := by omega
      subst e
      exact hQ
    · refine AW_iload_n dX1_addUp_20 rfl ?_
      refine AW_aload_n dX1_addUp_21 rfl ?_
      refine AW_get dX1_addUp_22 fX1_15 hb rfl ?_
      rw [am_row_other hbg]
      refine AW_icmp_ge 49 dX1_addUp_25 (by decide) (by omega) (by omega) (fun h25 => ?_) (fun h25 => ?_)
      · refine AW_aload_n dX1_addUp_49 rfl ?_
        refine AW_get dX1_addUp_50 fX1_25 hb rfl ?_
        refine AW_iload dX1_addUp_53 rfl ?_
        refine AW_iload_n dX1_addUp_55 rfl ?_
        refine AW_iastN (j := i) dX1_addUp_56 hg (Nat.le_of_ble_eq_true rfl) (by omega) (by omega) ?_
        refine AW_iload_n dX1_addUp_57 rfl ?_
        refine AW_iload_n dX1_addUp_58 rfl ?_
        refine AW_iadd dX1_addUp_59 ?_
        refine AW_istore_n (i := 1) (lv' := [_, _, _, _, _]) dX1_addUp_60 rfl (by decide) (Nat.le_of_ble_eq_true rfl) rfl ?_
        refine AW_iinc (lv' := [_, _, _, _, _]) dX1_addUp_61 rfl (by decide) rfl ?_
        refine AW_goto (tgt := 12) dX1_addUp_64 (by decide) ?_
        have e : cst (σ.1 b 0) (σ.1 b 1) (σ.1 t) (σ.1 s) (i + 1) = cst (σ.1 b 0) (σ.1 b 1) (σ.1 t) (σ.1 s) i := by
          simp only [cst]
          rw [if_neg (by omega)]
        have h9 := ih (by omega)
        rw [am_row_s (g := cgn (σ.1 b 0) (σ.1 b 1) (σ.1 t) (σ.1 s)) rfl]
        simp only [cgn] at h9
        rw [e] at h9
        exact h9
      · refine AW_aload_n dX1_addUp_28 rfl ?_
        refine AW_get dX1_addUp_29 fX1_18 hb rfl ?_
        refine AW_iload_n dX1_addUp_32 rfl ?_
        refine AW_ialdN (j := (cst (σ.1 b 0) (σ.1 b 1) (σ.1 t) (σ.1 s) i).2) dX1_addUp_33 ht (Nat.le_of_ble_eq_true rfl) (by omega) (by omega) ?_
        rw [am_row_other htg]
        have htb := htk (cst (σ.1 b 0) (σ.1 b 1) (σ.1 t) (σ.1 s) i).2 (by omega)
        refine AW_iload dX1_addUp_34 rfl ?_
        refine AW_icmp_ne 49 dX1_addUp_36 (by decide) (by omega) (by omega) (fun h36 => ?_) (fun h36 => ?_)
        · refine AW_aload_n dX1_addUp_49 rfl ?_
          refine AW_get dX1_addUp_50 fX1_25 hb rfl ?_
          refine AW_iload dX1_addUp_53 rfl ?_
          refine AW_iload_n dX1_addUp_55 rfl ?_
          refine AW_iastN (j := i) dX1_addUp_56 hg (Nat.le_of_ble_eq_true rfl) (by omega) (by omega) ?_
          refine AW_iload_n dX1_addUp_57 rfl ?_
          refine AW_iload_n dX1_addUp_58 rfl ?_
          refine AW_iadd dX1_addUp_59 ?_
          refine AW_istore_n (i := 1) (lv' := [_, _, _, _, _]) dX1_addUp_60 rfl (by decide) (Nat.le_of_ble_eq_true rfl) rfl ?_
          refine AW_iinc (lv' := [_, _, _, _, _]) dX1_addUp_61 rfl (by decide) rfl ?_
          refine AW_goto (tgt := 12) dX1_addUp_64 (by decide) ?_
          have e : cst (σ.1 b 0) (σ.1 b 1) (σ.1 t) (σ.1 s) (i + 1) = cst (σ.1 b 0) (σ.1 b 1) (σ.1 t) (σ.1 s) i := by
            simp only [cst]
            rw [if_neg (by omega)]
          have h9 := ih (by omega)
          rw [am_row_s (g := cgn (σ.1 b 0) (σ.1 b 1) (σ.1 t) (σ.1 s)) rfl]
          simp only [cgn] at h9
          rw [e] at h9
          exact h9
        · refine AW_aload_n dX1_addUp_39 rfl ?_
          refine AW_get dX1_addUp_40 fX1_22 hb rfl ?_
          refine AW_iload_n dX1_addUp_43 rfl ?_
          refine AW_ialdN (j := (cst (σ.1 b 0) (σ.1 b 1) (σ.1 t) (σ.1 s) i).2) dX1_addUp_44 hs (Nat.le_of_ble_eq_true rfl) (by omega) (by omega) ?_
          rw [am_row_other hsg]
          refine AW_istore_n (i := 2) (lv' := [_, _, _, _, _]) dX1_addUp_45 rfl (by decide) (Nat.le_of_ble_eq_true rfl) rfl ?_
          refine AW_iinc (lv' := [_, _, _, _, _]) dX1_addUp_46 rfl (by decide) rfl ?_
          refine AW_aload_n dX1_addUp_49 rfl ?_
          refine AW_get dX1_addUp_50 fX1_25 hb rfl ?_
          refine AW_iload dX1_addUp_53 rfl ?_
          refine AW_iload_n dX1_addUp_55 rfl ?_
          refine AW_iastN (j := i) dX1_addUp_56 hg (Nat.le_of_ble_eq_true rfl) (by omega) (by omega) ?_
          refine AW_iload_n dX1_addUp_57 rfl ?_
          refine AW_iload_n dX1_addUp_58 rfl ?_
          refine AW_iadd dX1_addUp_59 ?_
          refine AW_istore_n (i := 1) (lv' := [_, _, _, _, _]) dX1_addUp_60 rfl (by decide) (Nat.le_of_ble_eq_true rfl) rfl ?_
          refine AW_iinc (lv' := [_, _, _, _, _]) dX1_addUp_61 rfl (by decide) rfl ?_
          refine AW_goto (tgt := 12) dX1_addUp_64 (by decide) ?_
          have e : cst (σ.1 b 0) (σ.1 b 1) (σ.1 t) (σ.1 s) (i + 1) = (σ.1 s (cst (σ.1 b 0) (σ.1 b 1) (σ.1 t) (σ.1 s) i).2, (cst (σ.1 b 0) (σ.1 b 1) (σ.1 t) (σ.1 s) i).2 + 1) := by
            simp only [cst]
            rw [if_pos (by omega)]
          have h9 := ih (by omega)
          rw [am_row_s (g := cgn (σ.1 b 0) (σ.1 b 1) (σ.1 t) (σ.1 s)) rfl]
          simp only [cgn] at h9
          rw [e] at h9
          exact h9)
theorem c_addUp {T : List am_C} {σ : am_S} {b t s g : Nat} (hb : T[b]? = some (.inl (1, [none, none, some t, some s, some g]))) (ht : T[t]? = some (.inr (.inl (0, 8)))) (hs : T[s]? = some (.inr (.inl (0, 8)))) (hg : T[g]? = some (.inr (.inl (0, 301)))) (hbg : b ≠ g) (htg : t ≠ g) (hsg : s ≠ g) (hc : 0 ≤ σ.1 b 1 ∧ σ.1 b 1 ≤ 8) (htk : ∀ i, i < 8 → 0 ≤ σ.1 t i ∧ σ.1 t i ≤ 300) : Runs T mX1_addUp [vR b] σ (QV (fun σ' => σ' = am_row σ g 301 (cgn (σ.1 b 0) (σ.1 b 1) (σ.1 t) (σ.1 s)))) := by
  refine Runs.of (by decide) rfl (by simp) (Nat.le_of_ble_eq_true rfl) ?_
  show AW T mX1_addUp 0 [some (vR b), none, none, none, none] [] σ _
  refine AW_iconst dX1_addUp_0 ?_
  refine AW_istore_n (i := 1) (lv' := [_, _, _, _, _]) dX1_addUp_1 rfl (by decide) (Nat.le_of_ble_eq_true rfl) rfl ?_
  refine AW_aload_n dX1_addUp_2 rfl ?_
  refine AW_get dX1_addUp_3 fX1_9 hb rfl ?_
  refine AW_istore_n (i := 2) (lv' := [_, _, _, _, _]) dX1_addUp_6 rfl (by decide) (Nat.le_of_ble_eq_true rfl) rfl ?_
  refine AW_iconst dX1_addUp_7 ?_
  refine AW_istore_n (i := 3) (lv' := [_, _, _, _, _]) dX1_addUp_8 rfl (by decide) (Nat.le_of_ble_eq_true rfl) rfl ?_
  refine AW_iconst dX1_addUp_9 ?_
  refine AW_istore (lv' := [_, _, _, _, _]) dX1_addUp_10 (by decide) (Nat.le_of_ble_eq_true rfl) rfl ?_
  have h9 := l_addUp hb ht hs hg hbg htg hsg hc htk (Q := QV (fun σ' => σ' = am_row σ g 301 (cgn (σ.1 b 0) (σ.1 b 1) (σ.1 t) (σ.1 s)))) ⟨rfl, rfl⟩ 0 (by omega)
  rw [am_row_0] at h9
  exact h9
