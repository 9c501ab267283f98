theorem l_most7a {σ : am_S} {fr : Nat} {Q : Option am_V → am_S → Prop} (hk2 : AW am_tab mX7_most 23 [some (vR 70), some (vI fr), some (vI (1204 : Nat)), none] [] (am_row σ 76 1204 (fun _ => -6)) Q) : ∀ i : Nat, i ≤ 1204 → AW am_tab mX7_most 2 [some (vR 70), some (vI fr), some (vI (i : Nat)), none] [] (am_row σ 76 i (fun _ => -6)) Q :=
  up_loop (fun i hi ih => by
    refine AW_iload_n dX7_most_2 rfl ?_
    refine AW_sipush dX7_most_3 (by decide) ?_
    refine AW_icmp_ge 23 dX7_most_6 (by decide) (by omega) (by omega) (fun h6 => ?_) (fun h6 => ?_)
    · have e : i = 1204 := by omega
      subst e
      exact hk2
    · refine AW_aload_n dX7_most_9 rfl ?_
      refine AW_get dX7_most_10 fX7_26 rfl rfl ?_
      refine AW_iload_n dX7_most_13 rfl ?_
      refine AW_bipush dX7_most_14 (by decide) ?_
      refine AW_iastN (j := i) dX7_most_16 rfl (Nat.le_of_ble_eq_true rfl) (by omega) (by omega) ?_
      refine AW_iinc (lv' := [_, _, _, _]) dX7_most_17 rfl (by decide) rfl ?_
      refine AW_goto (tgt := 2) dX7_most_20 (by decide) ?_
      rw [am_row_s (g := fun _ => -6) rfl]
      exact ih (by omega))
theorem l_most7b {σ : am_S} {fr : Nat} {Q : Option am_V → am_S → Prop} (hk2 : AW am_tab mX7_most 47 [some (vR 70), some (vI fr), some (vI 0), some (vI (20 : Nat))] [] (am_row σ 81 20 (fun _ => -6)) Q) : ∀ i : Nat, i ≤ 20 → AW am_tab mX7_most 27 [some (vR 70), some (vI fr), some (vI 0), some (vI (i : Nat))] [] (am_row σ 81 i (fun _ => -6)) Q :=
  up_loop (fun i hi ih => by
    refine AW_iload_n dX7_most_27 rfl ?_
    refine AW_bipush dX7_most_28 (by decide) ?_
    refine AW_icmp_ge 47 dX7_most_30 (by decide) (by omega) (by omega) (fun h30 => ?_) (fun h30 => ?_)
    · have e : i = 20 := by omega
      subst e
      exact hk2
    · refine AW_aload_n dX7_most_33 rfl ?_
      refine AW_get dX7_most_34 fX7_41 rfl rfl ?_
      refine AW_iload_n dX7_most_37 rfl ?_
      refine AW_bipush dX7_most_38 (by decide) ?_
      refine AW_iastN (j := i) dX7_most_40 rfl (Nat.le_of_ble_eq_true rfl) (by omega) (by omega) ?_
      refine AW_iinc (lv' := [_, _, _, _]) dX7_most_41 rfl (by decide) rfl ?_
      refine AW_goto (tgt := 27) dX7_most_44 (by decide) ?_
      rw [am_row_s (g := fun _ => -6) rfl]
      exact ih (by omega))
/-- the things that the reference looks at: from one on, below k, that are not out -/
def bx_P (O : Row) (fr k : Nat) : Nat → Prop := fun j => fr ≤ j ∧ j < k ∧ O j = 0
theorem More.sz {A : Nat → Sl → Prop} {P : Nat → Prop} {F : Sl → Prop} {n : Nat} {f f' : Nat → Option Sl} {thing : Nat} (hth : thing < n) (h0 : f thing = none) (h1 : ∀ k, k ≠ thing → (f' k).isSome = (f k).isSome) (h2 : (f' thing).isSome = true) : sz f' n = sz f n + 1 := by
  rw [sz_cnt, sz_cnt]
  exact cnt_add hth (by simp [h0]) h2 (fun k _ hk => (h1 k hk).symm)
theorem l_most7 {n fr : Nat} {σ0 : am_S} (hn : n ≤ 20) (hG : ∀ k t, k < n → t ≤ 300 → σ0.1 75 (301 * k + t) = -6 ∨ 0 ≤ σ0.1 75 (301 * k + t) ∧ σ0.1 75 (301 * k + t) < 4) (hZ : ∀ c, c < 1204 → 0 ≤ σ0.1 77 c ∧ σ0.1 77 c ≤ 1) (hO : ∀ k, k < 20 → 0 ≤ σ0.1 78 k ∧ σ0.1 78 k ≤ 1) (hmany : σ0.1 71 6423 = (n : Nat)) {Q : Option am_V → am_S → Prop} (hQ : ∀ (σ : am_S) (m : Nat), Eqx [76, 79, 80, 81] σ0 σ → IsMax (bx_Ad (σ0.1 75)) (bx_P (σ0.1 78) fr n) (bx_Fd (σ0.1 77)) n m → Q (some (vI m)) σ) : ∀ k : Nat, k ≤ n → fr ≤ k → ∀ (σ : am_S) (f : Nat → Option Sl) (D : Nat → Prop), Eqx [76, 79, 80, 81] σ0 σ → Con n (σ.1 76) (σ.1 81) f → Mg (bx_Ad (σ0.1 75)) (bx_P (σ0.1 78) fr k) (bx_Fd (σ0.1 77)) f → (∀ j, bx_P (σ0.1 78) fr k j → f j = none → D j) → (∀ j, D j → bx_P (σ0.1 78) fr k j) → Shut (bx_Ad (σ0.1 75)) (bx_Fd (σ0.1 77)) f D → AW am_tab mX7_most 49 [some (vR 70), some (vI fr), some (vI (sz f n)), some (vI k)] [] σ Q :=
  up_loop (fun k hk0 ih hfr σ f D hE hC hM hD1 hD2 hS => by
    have r71 : σ.1 71 = σ0.1 71 := hE.1 71 (by decide)
    have r75 : σ.1 75 = σ0.1 75 := hE.1 75 (by decide)
    have r77 : σ.1 77 = σ0.1 77 := hE.1 77 (by decide)
    have r78 : σ.1 78 = σ0.1 78 := hE.1 78 (by decide)
    have hszb : sz f n ≤ 20 := by rw [sz_cnt]; exact Nat.le_trans (cnt_le _ _) hn
    have hfk : f k = none := by
      cases h : f k with
      | none => rfl
      | some s => exact absurd (hM.1 k s h).1.2.1 (by omega)
    refine AW_iload_n dX7_most_49 rfl ?_
    refine AW_aload_n dX7_most_50 rfl ?_
    refine AW_get dX7_most_51 fX7_7 rfl rfl ?_
    refine AW_sipush dX7_most_54 (by decide) ?_
    refine AW_ialdN (j := 6423) dX7_most_57 rfl (Nat.le_of_ble_eq_true rfl) (by omega) (by omega) ?_
    rw [r71, hmany]
    refine AW_icmp_ge 92 dX7_most_58 (by decide) (by omega) (by omega) (fun h58 => ?_) (fun h58 => ?_)
    · have e : k = n := by omega
      subst e
      refine AW_iload_n dX7_most_92 rfl ?_
      refine AW_iret dX7_most_93 rfl ?_
      exact hQ σ _ hE (cert_max (fun j hj => hj.2.1) hM hD1 hS)
    · refine AW_iload_n dX7_most_61 rfl ?_
      refine AW_aload_n dX7_most_62 rfl ?_
      refine AW_get dX7_most_63 fX7_32 rfl rfl ?_
      refine AW_iload_n dX7_most_66 rfl ?_
      refine AW_zaldN (j := k) dX7_most_67 rfl (Nat.le_of_ble_eq_true rfl) (by omega) (by omega) ?_
      rw [r78]
      have hOk := hO k (by omega)
      refine AW_if_ne 83 dX7_most_68 (by decide) (by omega) (fun h68 => ?_) (fun h68 => ?_)
      · refine AW_iconst dX7_most_83 ?_
        refine AW_iadd dX7_most_84 ?_
        refine AW_istore_n (i := 2) (lv' := [_, _, _, _]) dX7_most_85 rfl (by decide) (Nat.le_of_ble_eq_true rfl) rfl ?_
        refine AW_iinc (lv' := [_, _, _, _]) dX7_most_86 rfl (by decide) rfl ?_
        refine AW_goto (tgt := 49) dX7_most_89 (by decide) ?_
        have hP : bx_P (σ0.1 78) fr (k + 1) = bx_P (σ0.1 78) fr k := by
          funext j
          apply propext
          constructor
          · rintro ⟨a, b, c⟩
            refine ⟨a, ?_, c⟩
            have : j ≠ k := fun e => by subst e; omega
            omega
          · rintro ⟨a, b, c⟩
            exact ⟨a, by omega, c⟩
        have h9 := ih (by omega) (by omega) σ f D hE hC (by rw [hP]; exact hM) (by rw [hP]; exact hD1) (by rw [hP]; exact hD2) hS
        rw [Int.add_zero]
        exact h9
      · have hM1 : Mg (bx_Ad (σ0.1 75)) (bx_P (σ0.1 78) fr (k + 1)) (bx_Fd (σ0.1 77)) f := ⟨fun j x hj => by
          obtain ⟨⟨a1, a2, a3⟩, b, c⟩ := hM.1 j x hj
          exact ⟨⟨a1, by omega, a3⟩, b, c⟩, hM.2⟩
        have hPk : bx_P (σ0.1 78) fr (k + 1) k := ⟨hfr, by omega, by omega⟩
        refine AW_aload_n dX7_most_71 rfl ?_
        refine AW_iload_n dX7_most_72 rfl ?_
        refine AW_cVI1 dX7_most_73 kX7_102 (am_fit_b rfl) rfl rfl (Nat.le_of_ble_eq_true rfl) (c_find7 (P := bx_P (σ0.1 78) fr (k + 1)) (n := n) (f := f) hn (by rw [r75]; exact hG) (by rw [r77]; exact hZ) hC (by rw [r75, r77]; exact hM1) hfk hPk (by omega)) (fun z σ2 hq => ?_)
        rw [r75, r77] at hq
        rcases hq with ⟨rfl, h1, h2⟩ | ⟨rfl, h1, D2, h2, h3, h4⟩
        · refine AW_if_eq 83 dX7_most_76 (by decide) (by decide) (fun h => absurd h (by decide)) (fun _ => ?_)
          refine AW_iconst dX7_most_79 ?_
          refine AW_goto (tgt := 84) dX7_most_80 (by decide) ?_
          refine AW_iadd dX7_most_84 ?_
          refine AW_istore_n (i := 2) (lv' := [_, _, _, _]) dX7_most_85 rfl (by decide) (Nat.le_of_ble_eq_true rfl) rfl ?_
          refine AW_iinc (lv' := [_, _, _, _]) dX7_most_86 rfl (by decide) rfl ?_
          refine AW_goto (tgt := 49) dX7_most_89 (by decide) ?_
          obtain ⟨f', g1, g2, g3, g4, g5⟩ := h2
          have hsz := More.sz (A := (bx_Ad (σ0.1 75))) (P := bx_P (σ0.1 78) fr (k + 1)) (F := (bx_Fd (σ0.1 77))) (n := n) (show k < n by omega) hfk g3 g4
          rw [show ((sz f n : Nat) : Int) + 1 = ((sz f' n : Nat) : Int) by omega]
          refine ih (by omega) (by omega) σ2 f' D (hE.tr h1) g1 g2 (fun j hj hjn => ?_) (fun j hj => ?_) (fun i s hi ha hF => ?_)
          · have hjk : j ≠ k := fun e => by subst e; rw [hjn] at g4; cases g4
            refine hD1 j ⟨hj.1, by have := hj.2.1; omega, hj.2.2⟩ ?_
            have := g3 j hjk
            rw [hjn] at this
            cases h : f j with
            | none => rfl
            | some s => rw [h] at this; cases this
          · obtain ⟨a, b, c⟩ := hD2 j hj
            exact ⟨a, by omega, c⟩
          · obtain ⟨j, hj, hjs⟩ := hS i s hi ha hF
            exact ⟨j, hj, by rw [g5 D hS j hj]; exact hjs⟩
        · refine AW_if_eq 83 dX7_most_76 (by decide) (by decide) (fun _ => ?_) (fun h => absurd rfl h)
          refine AW_iconst dX7_most_83 ?_
          refine AW_iadd dX7_most_84 ?_
          refine AW_istore_n (i := 2) (lv' := [_, _, _, _]) dX7_most_85 rfl (by decide) (Nat.le_of_ble_eq_true rfl) rfl ?_
          refine AW_iinc (lv' := [_, _, _, _]) dX7_most_86 rfl (by decide) rfl ?_
          refine AW_goto (tgt := 49) dX7_most_89 (by decide) ?_
          rw [Int.add_zero]
          refine ih (by omega) (by omega) σ2 f (fun j => D j ∨ D2 j) (hE.tr (h1.mono (by decide))) (by rw [h1.1 76 (by decide), h1.1 81 (by decide)]; exact hC) hM1 (fun j hj hjn => ?_) (fun j hj => ?_) (fun i s hi ha hF => ?_)
          · by_cases e : j = k
            · subst e; exact Or.inr h2
            · exact Or.inl (hD1 j ⟨hj.1, by have := hj.2.1; omega, hj.2.2⟩ hjn)
          · rcases hj with hj | hj
            · obtain ⟨a, b, c⟩ := hD2 j hj
              exact ⟨a, by omega, c⟩
            · exact h3 j hj
          · rcases hi with hi | hi
            · obtain ⟨j, hj, hjs⟩ := hS i s hi ha hF
              exact ⟨j, Or.inl hj, hjs⟩
            · obtain ⟨j, hj, hjs⟩ := h4 i s hi ha hF
              exact ⟨j, Or.inr hj, hjs⟩)
theorem c_most7 {n fr : Nat} {σ0 : am_S} (hn : n ≤ 20) (hG : ∀ k t, k < n → t ≤ 300 → σ0.1 75 (301 * k + t) = -6 ∨ 0 ≤ σ0.1 75 (301 * k + t) ∧ σ0.1 75 (301 * k + t) < 4) (hZ : ∀ c, c < 1204 → 0 ≤ σ0.1 77 c ∧ σ0.1 77 c ≤ 1) (hO : ∀ k, k < 20 → 0 ≤ σ0.1 78 k ∧ σ0.1 78 k ≤ 1) (hmany : σ0.1 71 6423 = (n : Nat)) (hfr : fr ≤ n) : Runs am_tab mX7_most [vR 70, vI fr] σ0 (QI (fun z σ' => ∃ m : Nat, z = m ∧ Eqx [76, 79, 80, 81] σ0 σ' ∧ IsMax (bx_Ad (σ0.1 75)) (bx_P (σ0.1 78) fr n) (bx_Fd (σ0.1 77)) n m)) := by
  refine Runs.of (by decide) rfl (by simp) (Nat.le_of_ble_eq_true rfl) ?_
  show AW am_tab mX7_most 0 [some (vR 70), some (vI fr), none, none] [] σ0 _
  refine AW_iconst dX7_most_0 ?_
  refine AW_istore_n (i := 2) (lv' := [_, _, _, _]) dX7_most_1 rfl (by decide) (Nat.le_of_ble_eq_true rfl) rfl ?_
  suffices hs : AW am_tab mX7_most 23 [some (vR 70), some (vI fr), some (vI (1204 : Nat)), none] [] (am_row σ0 76 1204 (fun _ => -6)) _ by
    have h9 := l_most7a hs 0 (by omega)
    rw [am_row_0] at h9
    exact h9
  refine AW_iconst dX7_most_23 ?_
  refine AW_istore_n (i := 2) (lv' := [_, _, _, _]) dX7_most_24 rfl (by decide) (Nat.le_of_ble_eq_true rfl) rfl ?_
  refine AW_iconst dX7_most_25 ?_
  refine AW_istore_n (i := 3) (lv' := [_, _, _, _]) dX7_most_26 rfl (by decide) (Nat.le_of_ble_eq_true rfl) rfl ?_
  suffices hs : AW am_tab mX7_most 47 [some (vR 70), some (vI fr), some (vI 0), some (vI (20 : Nat))] [] (am_row (am_row σ0 76 1204 (fun _ => -6)) 81 20 (fun _ => -6)) _ by
    have h9 := l_most7b hs 0 (by omega)
    rw [am_row_0] at h9
    exact h9
  refine AW_iload_n dX7_most_47 rfl ?_
  refine AW_istore_n (i := 3) (lv' := [_, _, _, _]) dX7_most_48 rfl (by decide) (Nat.le_of_ble_eq_true rfl) rfl ?_
  have hs0 : sz (fun _ => (none : Option Sl)) n = 0 := by
    rw [sz_cnt]
    have : ∀ m, cnt (fun _ => (none : Option Sl).isSome) m = 0 := by
      intro m
      induction m with
      | zero => rfl
      | succ m ih => simp only [cnt, ih]; rfl
    exact this n
  have hC0 : Con n ((am_row (am_row σ0 76 1204 (fun _ => -6)) 81 20 (fun _ => -6)).1 76) ((am_row (am_row σ0 76 1204 (fun _ => -6)) 81 20 (fun _ => -6)).1 81) (fun _ => none) := by
    refine ⟨fun k hk _ => am_row_at hk, fun k s h => ?_, fun k s h => ?_, fun x hx => Or.inl (by rw [am_row_other (by decide), am_row_at hx])⟩
    · cases h
    · cases h
  have hM0 : Mg (bx_Ad (σ0.1 75)) (bx_P (σ0.1 78) fr fr) (bx_Fd (σ0.1 77)) (fun _ => none) := by
    refine ⟨fun k s h => ?_, fun i j s h => ?_⟩
    · cases h
    · cases h
  have h9 := l_most7 (n := n) (fr := fr) (σ0 := σ0) hn hG hZ hO hmany (Q := (QI (fun z σ' => ∃ m : Nat, z = m ∧ Eqx [76, 79, 80, 81] σ0 σ' ∧ IsMax (bx_Ad (σ0.1 75)) (bx_P (σ0.1 78) fr n) (bx_Fd (σ0.1 77)) n m))) (fun σ m h1 h2 => ⟨(m : Int), rfl, m, rfl, h1, h2⟩) fr hfr (Nat.le_refl _) (am_row (am_row σ0 76 1204 (fun _ => -6)) 81 20 (fun _ => -6)) (fun _ => none) (fun _ => False) ((Eqx.rf.row (by decide)).row (by decide)) hC0 hM0 (fun j hj _ => by have := hj.1; have := hj.2.1; omega) (fun j h => h.elim) (fun k s h => h.elim)
  rw [hs0] at h9
  exact h9
