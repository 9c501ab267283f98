/-- a search's tree: things qq 0, qq 1 .., each without a slot, or come by a thing that could have its slot -/
def TreeC (A : Nat → Sl → Prop) (n first : Nat) (f : Nat → Option Sl) (op : Nat) (W : Row) (qq : Nat → Nat) : Prop :=
  (∀ i j, i < op → j < op → qq i = qq j → i = j) ∧ (∀ j, j < op → first ≤ qq j ∧ qq j < n) ∧ ∀ j, j < op → (f (qq j) = none ∧ W (qq j) = -1) ∨ ∃ s, f (qq j) = some s ∧ ∃ i, i < j ∧ W (qq j) = qq i ∧ A (qq i) s
/-- one more is taken; those before the first stay -/
def MoreC (A : Nat → Sl → Prop) (n first : Nat) (f : Nat → Option Sl) (Ho So : Row) : Prop := ∃ f', ConC n Ho So f' ∧ Mg A (fun j => j < n) f0 f' ∧ (∀ k, k < first → f' k = f k) ∧ ∃ u, first ≤ u ∧ u < n ∧ f u = none ∧ (f' u).isSome = true ∧ ∀ k, k ≠ u → (f' k).isSome = (f k).isSome
theorem l_moveUp {A : Nat → Sl → Prop} {n first op q : Nat} {σ0 : am_S} {g : Nat → Option Sl} {qq : Nat → Nat} (hq : PT q) (hn : n ≤ 20) (hT : TreeC A n first g op (σ0.1 (q + 6)) qq) {t0 s0 : Int} {Q : Option am_V → am_S → Prop} (hQ : ∀ σ, Eqx [q + 3, q + 4] σ0 σ → MoreC A n first g (σ.1 (q + 4)) (σ.1 (q + 3)) → Q none σ) : ∀ (j c i : Nat) (σ : am_S) (f : Nat → Option Sl), j < op → i + j < 20 → c < 1204 → Eqx [q + 3, q + 4] σ0 σ → ConK n (σ.1 (q + 4)) (σ.1 (q + 3)) f c → Mg A (fun j => j < n) f0 f → (∀ a, a ≤ j → f (qq a) = g (qq a)) → (∀ k, (f k).isSome = (g k).isSome) → (∀ k, k < first → f k = g k) → A (qq j) (dec4 c) → ∀ x : Option am_V, AW am_tab mX2_moveUp 8 [some (vR q), some (vI t0), some (vI s0), some (vI (qq j : Nat)), some (vI (c : Nat)), some (vI (i : Nat)), x] [] σ Q := by
  intro j
  induction j using Nat.strongRecOn with
  | ind j ih =>
    intro c i σ f hj hij hc hE hH hM hsame hdom hfst hA x
    have h6 : σ.1 (q + 6) = σ0.1 (q + 6) := hE.1 (q + 6) (by simp)
    have hqn := hT.2.1 j hj
    have hst := hH.step hc hqn.2 hn hM.2
    have hnob : ∀ i, f i ≠ some (dec4 c) := fun i hi => by
      have := (hH.2.1 i _ hi).2.2.2
      exact this enc4_dec
    have hM' : Mg A (fun j => j < n) f0 (put f (qq j) (dec4 c)) := hM.put hqn.2 hA (fun h => h) hnob
    have hfj : f (qq j) = g (qq j) := hsame j (Nat.le_refl _)
    have hso : -1 ≤ σ.1 (q + 3) (qq j) ∧ σ.1 (q + 3) (qq j) < 1204 := by
      cases he : f (qq j) with
      | none => have := hH.1 (qq j) (by omega) he; omega
      | some s => obtain ⟨_, b, d, _⟩ := hH.2.1 _ _ he; have := enc4_lt b; omega
    have hwb : -1 ≤ σ0.1 (q + 6) (qq j) ∧ σ0.1 (q + 6) (qq j) < 20 := by
      rcases hT.2.2 j hj with ⟨_, h⟩ | ⟨s, _, i', hi', h, _⟩
      · omega
      · have := (hT.2.1 i' (by omega)).2; omega
    have hE' : Eqx [q + 3, q + 4] σ0 (am_up (am_up σ (q + 3) (qq j) c) (q + 4) c (qq j)) := (hE.up (by simp)).up (by simp)
    have r3 : (am_up (am_up σ (q + 3) (qq j) c) (q + 4) c (qq j)).1 (q + 3) = rup (σ.1 (q + 3)) (qq j) c := by rw [am_up_other (by omega), am_up_same]
    have r4 : (am_up (am_up σ (q + 3) (qq j) c) (q + 4) c (qq j)).1 (q + 4) = rup (σ.1 (q + 4)) c (qq j) := by rw [am_up_same, am_up_other (by omega)]
    have r6 : (am_up (am_up σ (q + 3) (qq j) c) (q + 4) c (qq j)).1 (q + 6) = σ0.1 (q + 6) := by rw [am_up_other (by omega), am_up_other (by omega), h6]
    have hfst' : ∀ k, k < first → put f (qq j) (dec4 c) k = g k := fun k hk => by rw [put_ne (by omega)]; exact hfst k hk
    refine AW_iload dX2_moveUp_8 rfl ?_
    refine AW_bipush dX2_moveUp_10 (by decide) ?_
    refine AW_icmp_ge 51 dX2_moveUp_12 (by decide) (by omega) (by omega) (fun h => absurd h (by omega)) (fun _ => ?_)
    refine AW_iload_n dX2_moveUp_15 rfl ?_
    refine AW_if_lt 51 dX2_moveUp_16 (by decide) (by omega) (fun h => absurd h (by omega)) (fun _ => ?_)
    refine AW_aload_n dX2_moveUp_19 rfl ?_
    refine AW_get dX2_moveUp_20 fX2_25 hq.1 rfl ?_
    refine AW_iload_n dX2_moveUp_23 rfl ?_
    refine AW_ialdN (j := qq j) dX2_moveUp_24 hq.2.2.2.1 (Nat.le_of_ble_eq_true rfl) (by omega) (by omega) ?_
    refine AW_istore (lv' := [_, _, _, _, _, _, _]) dX2_moveUp_25 (by decide) (Nat.le_of_ble_eq_true rfl) rfl ?_
    refine AW_aload_n dX2_moveUp_27 rfl ?_
    refine AW_iload_n dX2_moveUp_28 rfl ?_
    refine AW_iload dX2_moveUp_29 rfl ?_
    refine AW_cVV2 dX2_moveUp_31 kX2_103 (am_fit_b rfl) hq.1 rfl (Nat.le_of_ble_eq_true rfl) (c_hold hq (by omega) hc) (fun σ' hq => ?_)
    replace hq := hq.symm
    subst hq
    refine AW_iload dX2_moveUp_34 rfl ?_
    refine AW_istore (lv' := [_, _, _, _, _, _, _]) dX2_moveUp_36 (by decide) (Nat.le_of_ble_eq_true rfl) rfl ?_
    refine AW_aload_n dX2_moveUp_38 rfl ?_
    refine AW_get dX2_moveUp_39 fX2_34 hq.1 rfl ?_
    refine AW_iload_n dX2_moveUp_42 rfl ?_
    refine AW_ialdN (j := qq j) dX2_moveUp_43 hq.2.2.2.2.2.2.1 (Nat.le_of_ble_eq_true rfl) (by omega) (by omega) ?_
    rw [r6]
    refine AW_istore_n (i := 3) (lv' := [_, _, _, _, _, _, _]) dX2_moveUp_44 rfl (by decide) (Nat.le_of_ble_eq_true rfl) rfl ?_
    refine AW_iinc (lv' := [_, _, _, _, _, _, _]) dX2_moveUp_45 rfl (by decide) rfl ?_
    refine AW_goto (tgt := 8) dX2_moveUp_48 (by decide) ?_
    rcases hT.2.2 j hj with ⟨hn1, hw⟩ | ⟨s, hs, i1, hi1, hw, hAs⟩
    · have ef : f (qq j) = none := by rw [hfj]; exact hn1
      have hfin : MoreC A n first g ((am_up (am_up σ (q + 3) (qq j) c) (q + 4) c (qq j)).1 (q + 4)) ((am_up (am_up σ (q + 3) (qq j) c) (q + 4) c (qq j)).1 (q + 3)) := by
        refine ⟨put f (qq j) (dec4 c), by rw [r3, r4]; exact hst.2 ef, hM', hfst', qq j, hqn.1, hqn.2, hn1, by rw [put_self]; rfl, fun k hk => ?_⟩
        rw [put_ne hk]
        exact hdom k
      rw [hw]
      refine AW_iload dX2_moveUp_8 rfl ?_
      refine AW_bipush dX2_moveUp_10 (by decide) ?_
      refine AW_icmp_ge 51 dX2_moveUp_12 (by decide) (by omega) (by omega) (fun h12 => ?_) (fun h12 => ?_)
      · refine AW_vret dX2_moveUp_51 rfl ?_
        exact hQ _ hE' hfin
      · refine AW_iload_n dX2_moveUp_15 rfl ?_
        refine AW_if_lt 51 dX2_moveUp_16 (by decide) (by decide) (fun _ => ?_) (fun h => absurd (by decide) h)
        refine AW_vret dX2_moveUp_51 rfl ?_
        exact hQ _ hE' hfin
    · have ef : f (qq j) = some s := by rw [hfj]; exact hs
      obtain ⟨_, bs, ds, _⟩ := hH.2.1 _ _ ef
      rw [hw, ds]
      refine ih i1 hi1 (enc4 s) (i + 1) _ (put f (qq j) (dec4 c)) (by omega) (by omega) (enc4_lt bs) hE' (by rw [r3, r4]; exact hst.1 s ef) hM' (fun a ha => ?_) (fun k => ?_) hfst' (by rw [dec4_enc bs]; exact hAs) _
      · have : qq a ≠ qq j := fun e => by have := hT.1 a j (by omega) hj e; omega
        rw [put_ne this]
        exact hsame a (by omega)
      · by_cases hkq : k = qq j
        · subst hkq
          rw [put_self, hs]
          rfl
        · rw [put_ne hkq]
          exact hdom k
theorem c_moveUp {A : Nat → Sl → Prop} {n first op q : Nat} {σ0 : am_S} {g : Nat → Option Sl} {qq : Nat → Nat} (hq : PT q) (hn : n ≤ 20) (hT : TreeC A n first g op (σ0.1 (q + 6)) qq) {j c : Nat} (hj : j < op) (hc : c < 1204) (hC : ConC n (σ0.1 (q + 4)) (σ0.1 (q + 3)) g) (hM : Mg A (fun j => j < n) f0 g) (hfree : ∀ k, g k ≠ some (dec4 c)) (hA : A (qq j) (dec4 c)) : Runs am_tab mX2_moveUp [vR q, vI (qq j : Nat), vI c] σ0 (QV (fun σ' => Eqx [q + 3, q + 4] σ0 σ' ∧ MoreC A n first g (σ'.1 (q + 4)) (σ'.1 (q + 3)))) := by
  refine Runs.of (by decide) rfl (by simp) (Nat.le_of_ble_eq_true rfl) ?_
  show AW am_tab mX2_moveUp 0 [some (vR q), some (vI (qq j : Nat)), some (vI c), none, none, none, none] [] σ0 _
  refine AW_iload_n dX2_moveUp_0 rfl ?_
  refine AW_istore_n (i := 3) (lv' := [_, _, _, _, _, _, _]) dX2_moveUp_1 rfl (by decide) (Nat.le_of_ble_eq_true rfl) rfl ?_
  refine AW_iload_n dX2_moveUp_2 rfl ?_
  refine AW_istore (lv' := [_, _, _, _, _, _, _]) dX2_moveUp_3 (by decide) (Nat.le_of_ble_eq_true rfl) rfl ?_
  refine AW_iconst dX2_moveUp_5 ?_
  refine AW_istore (lv' := [_, _, _, _, _, _, _]) dX2_moveUp_6 (by decide) (Nat.le_of_ble_eq_true rfl) rfl ?_
  exact l_moveUp hq hn hT (fun σ2 h1 h2 => ⟨rfl, h1, h2⟩) j c 0 σ0 g hj (by have := q_len hT.1 (fun j hj => (hT.2.1 j hj).2); omega) hc Eqx.rf (hC.hole hfree hc) hM (fun _ _ => rfl) (fun _ => rfl) (fun _ _ => rfl) hA _
