/-- the Plan at q holds f; the rest is as it was -/
def PS (A : Nat → Sl → Prop) (n q : Nat) (σ0 σ : am_S) (f : Nat → Option Sl) : Prop := Eqx [q, q + 3, q + 4, q + 5, q + 6] σ0 σ ∧ (σ.1 q 0 = σ0.1 q 0 ∧ σ.1 q 1 = σ0.1 q 1 ∧ σ.1 q 10 = σ0.1 q 10) ∧ ConC n (σ.1 (q + 4)) (σ.1 (q + 3)) f ∧ Mg A (fun j => j < n) f0 f
theorem maxK0 {A : Nat → Sl → Prop} {n : Nat} {f : Nat → Option Sl} (h : IsMax A (fun j => j < n) f0 n (sz f n)) : MaxK A n 0 f := by
  unfold MaxK
  have e1 : Fof f 0 = f0 := by
    funext x
    apply propext
    exact ⟨fun ⟨j, hj, _⟩ => absurd hj (Nat.not_lt_zero _), fun h => h.elim⟩
  have e2 : upf f 0 = f := by
    funext j
    exact upf_ge (Nat.zero_le _)
  rw [e1, e2, Pge0]
  exact h
set_option maxHeartbeats 4000000 in
theorem l_settle1 {A : Nat → Sl → Prop} {n q : Nat} {σ0 : am_S} (hq : PT q) (hn : n ≤ 20) (hAok : ∀ k s, A k s → okS s) (hls : ∀ k, k < n → LsOK A k (σ0.1 (q + 1)) (σ0.1 (q + 2))) (hcount : σ0.1 q 0 = (n : Nat)) {k c : Nat} {f : Nat → Option Sl} (hk : k < n) (hmax : MaxK A n k f) (hc1 : σ0.1 (q + 2) k = (c : Nat)) (hc2 : c ≤ 20) (hc3 : ∀ i, i < c → ∃ s, A k s ∧ σ0.1 (q + 1) (20 * k + i) = enc4 s) {Q : Option am_V → am_S → Prop} (hyes : ∀ (f' : Nat → Option Sl) (σ : am_S) (s : Sl) (i : Nat), i < c → σ0.1 (q + 1) (20 * k + i) = enc4 s → A k s → (∀ i1, i1 < i → ∀ s, A k s → σ0.1 (q + 1) (20 * k + i1) = enc4 s → Fof f k s ∨ ¬ Works A n k (Fof f k) s) → PS A n q σ0 σ f' → (∀ j, j < k → f' j = f j) → f' k = some s → MaxK A n k f' → ∀ x y : Option am_V, AW am_tab mX2_settle 51 [some (vR q), some (vI (k : Nat)), x, y] [] σ Q) (hnot : ∀ σ : am_S, PS A n q σ0 σ f → (∀ i1, i1 < c → ∀ s, A k s → σ0.1 (q + 1) (20 * k + i1) = enc4 s → Fof f k s ∨ ¬ Works A n k (Fof f k) s) → ∀ x y : Option am_V, AW am_tab mX2_settle 51 [some (vR q), some (vI (k : Nat)), x, y] [] σ Q) : ∀ i : Nat, i ≤ c → ∀ σ : am_S, PS A n q σ0 σ f → (∀ i1, i1 < i → ∀ s, A k s → σ0.1 (q + 1) (20 * k + i1) = enc4 s → Fof f k s ∨ ¬ Works A n k (Fof f k) s) → AW am_tab mX2_settle 14 [some (vR q), some (vI (k : Nat)), some (vI 0), some (vI (i : Nat))] [] σ Q :=
  up_loop (fun i hi0 ih σ hP hno => by
    have r1 : σ.1 (q + 1) = σ0.1 (q + 1) := hP.1.1 (q + 1) (by simp)
    have r2 : σ.1 (q + 2) = σ0.1 (q + 2) := hP.1.1 (q + 2) (by simp)
    refine AW_iload_n dX2_settle_14 rfl ?_
    refine AW_aload_n dX2_settle_15 rfl ?_
    refine AW_get dX2_settle_16 fX2_22 hq.1 rfl ?_
    refine AW_iload_n dX2_settle_19 rfl ?_
    refine AW_ialdN (j := k) dX2_settle_20 hq.2.2.1 (Nat.le_of_ble_eq_true rfl) (by omega) (by omega) ?_
    rw [r2, hc1]
    refine AW_icmp_ge 51 dX2_settle_21 (by decide) (by omega) (by omega) (fun h21 => ?_) (fun h21 => ?_)
    · have e : i = c := by omega
      subst e
      exact hnot σ hP hno _ _
    · refine AW_iload_n dX2_settle_24 rfl ?_
      refine AW_if_ne 51 dX2_settle_25 (by decide) (by decide) (fun h => absurd rfl h) (fun _ => ?_)
      refine AW_aload_n dX2_settle_28 rfl ?_
      refine AW_iload_n dX2_settle_29 rfl ?_
      refine AW_aload_n dX2_settle_30 rfl ?_
      refine AW_get dX2_settle_31 fX2_18 hq.1 rfl ?_
      refine AW_iload_n dX2_settle_34 rfl ?_
      refine AW_bipush dX2_settle_35 (by decide) ?_
      refine AW_imul dX2_settle_37 ?_
      refine AW_iload_n dX2_settle_38 rfl ?_
      refine AW_iadd dX2_settle_39 ?_
      refine AW_ialdN (j := 20 * k + i) dX2_settle_40 hq.2.1 (Nat.le_of_ble_eq_true rfl) (by omega) (by omega) ?_
      obtain ⟨s, hsA, hse⟩ := hc3 i (by omega)
      rw [r1, hse]
      refine AW_cVI2 dX2_settle_41 kX2_95 (am_fit_b rfl) hq.1 rfl (Nat.le_of_ble_eq_true rfl) (c_settleAt hq hn hAok hP.2.2.1 (by rw [r1, r2]; exact hls) hP.2.2.2 (by rw [hP.2.1.1]; exact hcount) hk hmax hsA) (fun z σ' hq2 => ?_)
      obtain ⟨hE2, hfl, hz⟩ := hq2
      have hflt := And.intro (hfl.1.trans hP.2.1.1) (And.intro (hfl.2.1.trans hP.2.1.2.1) (hfl.2.2.trans hP.2.1.2.2))
      rcases hz with ⟨rfl, f', g1, g2, g3, g4, g5⟩ | ⟨rfl, g1, g2⟩
      · refine AW_istore_n (i := 2) (lv' := [_, _, _, _]) dX2_settle_44 rfl (by decide) (Nat.le_of_ble_eq_true rfl) rfl ?_
        refine AW_iinc (lv' := [_, _, _, _]) dX2_settle_45 rfl (by decide) rfl ?_
        refine AW_goto (tgt := 14) dX2_settle_48 (by decide) ?_
        refine AW_iload_n dX2_settle_14 rfl ?_
        refine AW_aload_n dX2_settle_15 rfl ?_
        refine AW_get dX2_settle_16 fX2_22 hq.1 rfl ?_
        refine AW_iload_n dX2_settle_19 rfl ?_
        refine AW_ialdN (j := k) dX2_settle_20 hq.2.2.1 (Nat.le_of_ble_eq_true rfl) (by omega) (by omega) ?_
        rw [hE2.1 (q + 2) (by simp), r2, hc1]
        refine AW_icmp_ge 51 dX2_settle_21 (by decide) (by omega) (by omega) (fun h21 => ?_) (fun h21 => ?_)
        · exact hyes f' σ' s i (by omega) hse hsA hno ⟨hP.1.tr hE2, hflt, g1, g2⟩ g3 g4 g5 _ _
        · refine AW_iload_n dX2_settle_24 rfl ?_
          refine AW_if_ne 51 dX2_settle_25 (by decide) (by decide) (fun _ => ?_) (fun h => absurd (by decide) h)
          exact hyes f' σ' s i (by omega) hse hsA hno ⟨hP.1.tr hE2, hflt, g1, g2⟩ g3 g4 g5 _ _
      · refine AW_istore_n (i := 2) (lv' := [_, _, _, _]) dX2_settle_44 rfl (by decide) (Nat.le_of_ble_eq_true rfl) rfl ?_
        refine AW_iinc (lv' := [_, _, _, _]) dX2_settle_45 rfl (by decide) rfl ?_
        refine AW_goto (tgt := 14) dX2_settle_48 (by decide) ?_
        refine ih (by omega) σ' ⟨hP.1.tr hE2, hflt, g1, hP.2.2.2⟩ (fun i1 hi1 s1 hA1 he1 => ?_)
        by_cases e : i1 = i
        · subst e
          have : s1 = s := enc4_inj (hAok _ _ hA1) (hAok _ _ hsA) (by omega)
          subst this
          exact g2
        · exact hno i1 (by omega) s1 hA1 he1)
set_option maxHeartbeats 4000000 in
theorem l_settle2 {A : Nat → Sl → Prop} {n q : Nat} {σ0 : am_S} (hq : PT q) (hn : n ≤ 20) (hAok : ∀ k s, A k s → okS s) (hls : ∀ k, k < n → LsOK A k (σ0.1 (q + 1)) (σ0.1 (q + 2))) (hcount : σ0.1 q 0 = (n : Nat)) {Q : Option am_V → am_S → Prop} (hQ : ∀ (f : Nat → Option Sl) (σ : am_S), PS A n q σ0 σ f → PlanSpec A n f → Q none σ) : ∀ k : Nat, k ≤ n → ∀ (f : Nat → Option Sl) (σ : am_S), PS A n q σ0 σ f → MaxK A n k f → (∀ j, j < k → PSC A n f j) → ∀ x y : Option am_V, AW am_tab mX2_settle 2 [some (vR q), some (vI (k : Nat)), x, y] [] σ Q :=
  up_loop (fun k hk0 ih f σ hP hmax hps x y => by
    refine AW_iload_n dX2_settle_2 rfl ?_
    refine AW_aload_n dX2_settle_3 rfl ?_
    refine AW_get dX2_settle_4 fX2_9 hq.1 rfl ?_
    rw [hP.2.1.1, hcount]
    refine AW_icmp_ge 57 dX2_settle_7 (by decide) (by omega) (by omega) (fun h7 => ?_) (fun h7 => ?_)
    · refine AW_vret dX2_settle_57 rfl ?_
      have e : k = n := by omega
      subst e
      exact hQ f σ hP hps
    · refine AW_iconst dX2_settle_10 ?_
      refine AW_istore_n (i := 2) (lv' := [_, _, _, _]) dX2_settle_11 rfl (by decide) (Nat.le_of_ble_eq_true rfl) rfl ?_
      refine AW_iconst dX2_settle_12 ?_
      refine AW_istore_n (i := 3) (lv' := [_, _, _, _]) dX2_settle_13 rfl (by decide) (Nat.le_of_ble_eq_true rfl) rfl ?_
      obtain ⟨c, hc1, hc2, hc3, hc4, hc5⟩ := hls k (by omega)
      refine l_settle1 hq hn hAok hls hcount (by omega) hmax hc1 hc2 hc3 (fun f' σ2 s i hi hse hsA hno hP2 hlow hfk hmax2 x y => ?_) (fun σ2 hP2 hno x y => ?_) 0 (Nat.zero_le _) σ hP (fun i1 hi1 => absurd hi1 (Nat.not_lt_zero _))
      · have eF := Fof_congr (p := f') (q := f) hlow
        obtain ⟨z1, z2⟩ := settle_yes (by omega) hP2.2.2.2 hmax2 hfk (fun s' hs' hF' hlt => by
          rw [eF] at hF' ⊢
          rcases hc5 s' hs' with ⟨i1, hi1, he1⟩ | ⟨h20, hg⟩
          · rcases Nat.lt_trichotomy i1 i with h | h | h
            · exact (hno i1 h s' hs' he1).resolve_left hF'
            · subst h
              have : s' = s := enc4_inj (hAok _ _ hs') (hAok _ _ hsA) (by omega)
              subst this
              omega
            · have := hc4 i i1 s s' h hi1 (hAok _ _ hsA) (hAok _ _ hs') hse he1
              omega
          · have := hg i s (by omega) (hAok _ _ hsA) hse
            omega)
        refine AW_iinc (lv' := [_, _, _, _]) dX2_settle_51 rfl (by decide) rfl ?_
        refine AW_goto (tgt := 2) dX2_settle_54 (by decide) ?_
        refine ih (by omega) f' σ2 hP2 z2 (fun j hj => ?_) _ _
        by_cases e : j = k
        · rw [e]; exact z1
        · exact (hps j (by omega)).congr (fun i hi => hlow i (by omega))
      · obtain ⟨z0, z1, z2⟩ := settle_no hn hAok (by omega) hP2.2.2.2 hmax (hls k (by omega)) (fun i s hi hA he => hno i (by omega) s hA he)
        refine AW_iinc (lv' := [_, _, _, _]) dX2_settle_51 rfl (by decide) rfl ?_
        refine AW_goto (tgt := 2) dX2_settle_54 (by decide) ?_
        refine ih (by omega) f σ2 hP2 z2 (fun j hj => ?_) _ _
        by_cases e : j = k
        · rw [e]; exact z1
        · exact hps j (by omega))
theorem c_settle {A : Nat → Sl → Prop} {n q : Nat} {σ0 : am_S} (hq : PT q) (hn : n ≤ 20) (hAok : ∀ k s, A k s → okS s) (hls : ∀ k, k < n → LsOK A k (σ0.1 (q + 1)) (σ0.1 (q + 2))) (hcount : σ0.1 q 0 = (n : Nat)) {f : Nat → Option Sl} (hC : ConC n (σ0.1 (q + 4)) (σ0.1 (q + 3)) f) (hM : Mg A (fun j => j < n) f0 f) (hmax : IsMax A (fun j => j < n) f0 n (sz f n)) : Runs am_tab mX2_settle [vR q] σ0 (QV (fun σ' => ∃ f' : Nat → Option Sl, PS A n q σ0 σ' f' ∧ PlanSpec A n f')) := by
  refine Runs.of (by decide) rfl (by simp) (Nat.le_of_ble_eq_true rfl) ?_
  show AW am_tab mX2_settle 0 [some (vR q), none, none, none] [] σ0 _
  refine AW_iconst dX2_settle_0 ?_
  refine AW_istore_n (i := 1) (lv' := [_, _, _, _]) dX2_settle_1 rfl (by decide) (Nat.le_of_ble_eq_true rfl) rfl ?_
  exact l_settle2 hq hn hAok hls hcount (fun f2 σ2 h1 h2 => ⟨rfl, f2, h1, h2⟩) 0 (Nat.zero_le _) f σ0 ⟨Eqx.rf, ⟨rfl, rfl, rfl⟩, hC, hM⟩ (maxK0 hmax) (fun j hj => absurd hj (Nat.not_lt_zero _)) _ _
