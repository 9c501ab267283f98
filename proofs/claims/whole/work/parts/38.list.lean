/-- the class's State is that of X, as far as THE PLAN asks -/
def SOK (σ : am_S) (X : Row) : Prop := TO σ X ∧ GO σ X ∧ AO σ X
theorem SOK.kept {σ σ' : am_S} {X : Row} {S : List Nat} (h : SOK σ X) (hE : Eqx S σ σ') (hS : ∀ a ∈ S, 18 < a) : SOK σ' X := by
  have hr : ∀ a, a ≤ 18 → σ'.1 a = σ.1 a := fun a ha => hE.1 a (fun e => by have := hS a e; omega)
  unfold SOK TO GO AO
  rw [hr 7 (by decide), hr 8 (by decide), hr 9 (by decide), hr 10 (by decide), hr 11 (by decide), hr 6 (by decide), hr 14 (by decide), hr 15 (by decide), hr 16 (by decide), hr 17 (by decide), hr 18 (by decide)]
  exact h
set_option maxHeartbeats 4000000 in
theorem l_listSlotsOf {X : Row} {q k a : Nat} {w pl : Int} {σ0 : am_S} (hq : PT q) (hS : WS X) (hT : WT X) (hA : WA X) (hSO : SOK σ0 X) (hk : (k : Int) < X 6423) (ha : a < 4) (haw : (a : Int) ≠ w) (hpl : pl < X (6401 + a)) {F L : Int} (hF : FC X a k F) (hL : LC X a k L) {Q : Option am_V → am_S → Prop} (hk2 : ∀ (c : Nat) (t : Int) (σ : am_S), Eqx [q + 1] σ0 σ → (∀ i, (i < 20 * k ∨ 20 * k + 20 ≤ i) → σ.1 (q + 1) i = σ0.1 (q + 1) i) → LsP (gA X w) k (fun s : Sl => X (6401 + s.2) ≤ pl ∨ s.2 = a) (σ.1 (q + 1)) c → AW am_tab mX2_listSlotsOf 76 [some (vR q), some (vR 2), some (vI (k : Nat)), some (vI (a : Nat)), some (vI L), some (vI t), some (vI (c : Nat))] [] σ Q) : ∀ c : Nat, c ≤ 20 → ∀ (t : Int) (σ : am_S), Eqx [q + 1] σ0 σ → (∀ i, (i < 20 * k ∨ 20 * k + 20 ≤ i) → σ.1 (q + 1) i = σ0.1 (q + 1) i) → LsP (gA X w) k (fun s : Sl => X (6401 + s.2) ≤ pl ∨ (s.2 = a ∧ (s.1 : Int) < t)) (σ.1 (q + 1)) c → X (6409 + a) ∣ t - X (6413 + a) → F ≤ t → t ≤ 400 → AW am_tab mX2_listSlotsOf 24 [some (vR q), some (vR 2), some (vI (k : Nat)), some (vI (a : Nat)), some (vI L), some (vI t), some (vI (c : Nat))] [] σ Q :=
  up_loop (fun c hc0 ih t σ hE hout hLs htd htF ht4 => by
    have hFb := hF.2.1
    have hLb : -21 ≤ L ∧ L ≤ 300 := by
      rcases hL with ⟨_, h⟩ | ⟨_, _, h, _⟩ <;> omega
    have hM := hT.1
    have hb := hA.1 a ha
    refine AW_iload dX2_listSlotsOf_24 rfl ?_
    refine AW_iload dX2_listSlotsOf_26 rfl ?_
    refine AW_icmp_gt 76 dX2_listSlotsOf_28 (by decide) (by omega) (by omega) (fun h28 => ?_) (fun h28 => ?_)
    · refine hk2 c _ σ hE hout ?_
      refine hLs.mono gA_ok (fun s _ hr => hr.imp id (fun h => h.1)) (fun s hs hr => ?_)
      rcases hr with hr | hr
      · exact Or.inl (Or.inl hr)
      · obtain ⟨s1, s2⟩ := s
        dsimp only at hr
        subst hr
        have ho := hs.1
        have hc := ((gA_can hA ho.2 ho.1).mp hs).2
        have hci := (can_iff hF hL ho.1).mp hc
        exact Or.inl (Or.inr ⟨rfl, by dsimp only; dsimp only at hci; omega⟩)
    · refine AW_iload dX2_listSlotsOf_31 rfl ?_
      refine AW_bipush dX2_listSlotsOf_33 (by decide) ?_
      refine AW_icmp_ge 76 dX2_listSlotsOf_35 (by decide) (by omega) (by omega) (fun h35 => ?_) (fun h35 => ?_)
      · refine hk2 c _ σ hE hout ?_
        refine hLs.mono gA_ok (fun s _ hr => hr.imp id (fun h => h.1)) (fun s hs hr => ?_)
        rcases hr with hr | hr
        · exact Or.inl (Or.inl hr)
        · obtain ⟨s1, s2⟩ := s
          dsimp only at hr
          subst hr
          have ho := hs.1
          have hc := ((gA_can hA ho.2 ho.1).mp hs).2
          have hci := (can_iff hF hL ho.1).mp hc
          by_cases z : (s1 : Int) < t
          · exact Or.inl (Or.inr ⟨rfl, z⟩)
          · refine Or.inr ⟨by omega, fun s' hs' hr' => ?_⟩
            dsimp only
            rcases hr' with hr' | hr'
            · obtain ⟨s1', s2'⟩ := s'
              have ho' := hs'.1
              have hc' := ((gA_can hA ho'.2 ho'.1).mp hs').2
              exact along hS hA ho'.2 ho.2 ho'.1 ho.1 (by dsimp only at hr' ⊢; omega) hc' hc
            · omega
      · obtain ⟨T, hTe⟩ : ∃ T : Nat, t = T := ⟨_, (Int.toNat_of_nonneg (by omega)).symm⟩
        subst hTe
        have hcan : canB X a k T = true := (can_iff hF hL (by omega)).mpr ⟨htF, by omega, htd⟩
        have hgA : gA X w k (T, a) := (gA_can hA ha (by omega)).mpr ⟨haw, hcan⟩
        have hless : ∀ s, gA X w k s → (X (6401 + s.2) ≤ pl ∨ (s.2 = a ∧ (s.1 : Int) < (T : Int))) → s.1 < T := fun s hs hr => by
          rcases hr with hr | hr
          · obtain ⟨s1, s2⟩ := s
            have ho := hs.1
            have hc := ((gA_can hA ho.2 ho.1).mp hs).2
            exact along hS hA ho.2 ha ho.1 (by omega) (by dsimp only at hr ⊢; omega) hc hcan
          · omega
        have henc : enc4 (T, a) = 4 * T + a := rfl
        refine AW_aload_n dX2_listSlotsOf_38 rfl ?_
        refine AW_get dX2_listSlotsOf_39 fX2_18 hq.1 rfl ?_
        refine AW_iload_n dX2_listSlotsOf_42 rfl ?_
        refine AW_bipush dX2_listSlotsOf_43 (by decide) ?_
        refine AW_imul dX2_listSlotsOf_45 ?_
        refine AW_iload dX2_listSlotsOf_46 rfl ?_
        refine AW_iadd dX2_listSlotsOf_48 ?_
        refine AW_iload dX2_listSlotsOf_49 rfl ?_
        refine AW_iconst dX2_listSlotsOf_51 ?_
        refine AW_imul dX2_listSlotsOf_52 ?_
        refine AW_iload_n dX2_listSlotsOf_53 rfl ?_
        refine AW_iadd dX2_listSlotsOf_54 ?_
        refine AW_iastN (j := 20 * k + c) dX2_listSlotsOf_55 hq.2.1 (Nat.le_of_ble_eq_true rfl) (by omega) (by omega) ?_
        refine AW_iinc (lv' := [_, _, _, _, _, _, _]) dX2_listSlotsOf_56 rfl (by decide) rfl ?_
        have hSO2 : SOK (am_up σ (q + 1) (20 * k + c) ((T : Int) * 4 + (a : Int))) X := hSO.kept (S := [q + 1]) (hE.up (by simp)) (by intro x hx; simp at hx; have := hq.2.2.2.2.2.2.2; omega)
        refine AW_aload_n dX2_listSlotsOf_59 rfl ?_
        refine AW_get dX2_listSlotsOf_60 fX2_69 rfl rfl ?_
        refine AW_iload_n dX2_listSlotsOf_63 rfl ?_
        refine AW_iload dX2_listSlotsOf_64 rfl ?_
        refine AW_iconst dX2_listSlotsOf_66 ?_
        refine AW_iadd dX2_listSlotsOf_67 ?_
        refine AW_cVI2 dX2_listSlotsOf_68 kX2_92 (am_fit_b rfl) rfl rfl (Nat.le_of_ble_eq_true rfl) (c_beatFrom hSO2.2.2 hA ha (by omega)) (fun z σ' hq => ?_)
        obtain ⟨hz, hs⟩ := hq
        replace hz := hz.symm
        subst hz
        replace hs := hs.symm
        subst hs
        refine AW_istore (lv' := [_, _, _, _, _, _, _]) dX2_listSlotsOf_71 (by decide) (Nat.le_of_ble_eq_true rfl) rfl ?_
        refine AW_goto (tgt := 24) dX2_listSlotsOf_73 (by decide) ?_
        have hbf := bf_spec (o := X (6413 + a)) (M := (T : Int) + 1) (b := X (6409 + a)) (by omega)
        refine ih (by omega) _ _ ((hE.up (by simp))) (fun i hi => ?_) ?_ hbf.1 (by have := hbf.2.1; omega) (by have := hbf.2.2.1; omega)
        · rw [am_up_same, show rup (σ.1 (q + 1)) (20 * k + c) ((T : Int) * 4 + (a : Int)) i = σ.1 (q + 1) i from if_neg (by omega)]
          exact hout i hi
        · rw [am_up_same, show (T : Int) * 4 + (a : Int) = (enc4 (T, a) : Nat) by rw [henc]; omega]
          refine hLs.add gA_ok (by omega) hgA hless (Or.inr ⟨rfl, by have := hbf.2.1; dsimp only; omega⟩) (fun s hs hr => ?_) (fun s hs hr => ?_)
          · rcases hr with hr | hr
            · exact Or.inl hr
            · exact Or.inr ⟨hr.1, by have := hbf.2.1; omega⟩
          · rcases hr with hr | ⟨hr1, hr2⟩
            · exact Or.inl (Or.inl hr)
            · obtain ⟨s1, s2⟩ := s
              dsimp only at hr1 hr2
              subst hr1
              have ho := hs.1
              have hc := ((gA_can hA ho.2 ho.1).mp hs).2
              have hcd := ((can_iff hF hL ho.1).mp hc).2.2
              by_cases z : s1 < T
              · exact Or.inl (Or.inr ⟨rfl, by dsimp only; omega⟩)
              · by_cases z2 : s1 = T
                · subst z2; exact Or.inr rfl
                · have := hbf.2.2.2 s1 (by omega) hcd
                  omega)
theorem c_listSlotsOf {X : Row} {q k a : Nat} {w pl : Int} {σ0 : am_S} (hq : PT q) (hS : WS X) (hT : WT X) (hA : WA X) (hSO : SOK σ0 X) (hk : (k : Int) < X 6423) (ha : a < 4) (haw : (a : Int) ≠ w) (hpl : pl < X (6401 + a)) {c : Nat} (hc : σ0.1 (q + 2) k = (c : Nat)) (hLs : LsP (gA X w) k (fun s => X (6401 + s.2) ≤ pl) (σ0.1 (q + 1)) c) : Runs am_tab mX2_listSlotsOf [vR q, vR 2, vI k, vI a] σ0 (QV (fun σ => Eqx [q + 1, q + 2] σ0 σ ∧ (∀ i, (i < 20 * k ∨ 20 * k + 20 ≤ i) → σ.1 (q + 1) i = σ0.1 (q + 1) i) ∧ (∀ j, j ≠ k → σ.1 (q + 2) j = σ0.1 (q + 2) j) ∧ ∃ c2 : Nat, σ.1 (q + 2) k = c2 ∧ LsP (gA X w) k (fun s : Sl => X (6401 + s.2) ≤ pl ∨ s.2 = a) (σ.1 (q + 1)) c2)) := by
  refine Runs.of (by decide) rfl (by simp) (Nat.le_of_ble_eq_true rfl) ?_
  show AW am_tab mX2_listSlotsOf 0 [some (vR q), some (vR 2), some (vI k), some (vI a), none, none, none] [] σ0 _
  refine AW_aload_n dX2_listSlotsOf_0 rfl ?_
  refine AW_iload_n dX2_listSlotsOf_1 rfl ?_
  refine AW_iload_n dX2_listSlotsOf_2 rfl ?_
  refine AW_cVI2 dX2_listSlotsOf_3 kX2_85 (am_fit_b rfl) rfl rfl (Nat.le_of_ble_eq_true rfl) (c_lastChanceOf hS hT hSO.1 hSO.2.1 hSO.2.2 hA ha hk) (fun zL σ' hq2 => ?_)
  obtain ⟨hs, hL⟩ := hq2
  subst hs
  refine AW_istore (lv' := [_, _, _, _, _, _, _]) dX2_listSlotsOf_6 (by decide) (Nat.le_of_ble_eq_true rfl) rfl ?_
  refine AW_aload_n dX2_listSlotsOf_8 rfl ?_
  refine AW_iload_n dX2_listSlotsOf_9 rfl ?_
  refine AW_iload_n dX2_listSlotsOf_10 rfl ?_
  refine AW_cVI2 dX2_listSlotsOf_11 kX2_89 (am_fit_b rfl) rfl rfl (Nat.le_of_ble_eq_true rfl) (c_firstChanceOf hS hT hSO.1 hSO.2.1 hSO.2.2 hA ha hk) (fun z σ' hq2 => ?_)
  obtain ⟨hs, hF⟩ := hq2
  subst hs
  have hM := hT.1
  refine AW_istore (lv' := [_, _, _, _, _, _, _]) dX2_listSlotsOf_14 (by decide) (Nat.le_of_ble_eq_true rfl) rfl ?_
  refine AW_aload_n dX2_listSlotsOf_16 rfl ?_
  refine AW_get dX2_listSlotsOf_17 fX2_22 hq.1 rfl ?_
  refine AW_iload_n dX2_listSlotsOf_20 rfl ?_
  refine AW_ialdN (j := k) dX2_listSlotsOf_21 hq.2.2.1 (Nat.le_of_ble_eq_true rfl) (by omega) (by omega) ?_
  refine AW_istore (lv' := [_, _, _, _, _, _, _]) dX2_listSlotsOf_22 (by decide) (Nat.le_of_ble_eq_true rfl) rfl ?_
  rw [hc]
  refine l_listSlotsOf hq hS hT hA hSO hk ha haw hpl hF hL (fun c2 t2 σ2 hE2 hout2 hL2 => ?_) c hLs.1 _ σ0 Eqx.rf (fun _ _ => rfl) ?_ hF.1 (Int.le_refl _) (by have := hF.2.1; omega)
  · have hM := hT.1
    refine AW_aload_n dX2_listSlotsOf_76 rfl ?_
    refine AW_get dX2_listSlotsOf_77 fX2_22 hq.1 rfl ?_
    refine AW_iload_n dX2_listSlotsOf_80 rfl ?_
    refine AW_iload dX2_listSlotsOf_81 rfl ?_
    refine AW_iastN (j := k) dX2_listSlotsOf_83 hq.2.2.1 (Nat.le_of_ble_eq_true rfl) (by omega) (by omega) ?_
    refine AW_vret dX2_listSlotsOf_84 rfl ?_
    refine ⟨rfl, (hE2.mono (by simp)).up (by simp), ?_, fun j hj => ?_, c2, ?_, ?_⟩
    · rw [am_up_other (by omega)]; exact hout2
    · rw [am_up_same, hE2.1 (q + 2) (by simp)]; exact if_neg hj
    · rw [am_up_same]; exact if_pos rfl
    · rw [am_up_other (by omega)]; exact hL2
  · refine hLs.mono gA_ok (fun s _ hr => Or.inl hr) (fun s hs hr => ?_)
    rcases hr with hr | ⟨hr1, hr2⟩
    · exact Or.inl hr
    · obtain ⟨s1, s2⟩ := s
      dsimp only at hr1 hr2
      subst hr1
      have ho := hs.1
      have hc9 := ((gA_can hA ho.2 ho.1).mp hs).2
      have := ((can_iff hF hL ho.1).mp hc9).1
      omega
