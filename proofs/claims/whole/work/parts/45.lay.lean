theorem bestP_congr {P P' : Row} {base : Nat} : ∀ p, (∀ i, i < p → P (base + i) = P' (base + i)) → bestP P base p = bestP P' base p := by
  intro p
  induction p with
  | zero => intro _; rfl
  | succ p ih =>
    intro h
    have hi := ih (fun i hi => h i (by omega))
    simp only [bestP]
    rcases Nat.eq_zero_or_pos p with z | z
    · subst z; simp [bestP]
    · have hb := bestP_lt (P := P') (base := base) p z
      rw [hi, h p (by omega), h _ (by omega : bestP P' base p < p + 1)]
theorem whoAt_none {pl : Nat → Option Sl} {s : Nat} : ∀ n, (∀ j, j < n → pl j ≠ some (dec4 s)) → whoAt pl s n = none := by
  intro n
  induction n with
  | zero => intro _; rfl
  | succ n ih =>
    intro h
    simp only [whoAt]
    refine (if_neg (h n (by omega))).trans ?_
    exact ih (fun j hj => h j (by omega))
theorem whoAt_at {pl : Nat → Option Sl} {s k : Nat} (hk : pl k = some (dec4 s)) (hi : ∀ i j s, pl i = some s → pl j = some s → i = j) : ∀ n, k < n → whoAt pl s n = some k := by
  intro n
  induction n with
  | zero => intro h; omega
  | succ n ih =>
    intro h
    simp only [whoAt]
    by_cases e : k = n
    · subst e
      exact if_pos hk
    · refine (if_neg (fun z => e (hi k n _ hk z))).trans ?_
      exact ih (by omega)
theorem trS_skip {X : Row} {f : Nat → Option Sl} {n s0 : Nat} : ∀ e, s0 ≤ e → (∀ j, j < n → ∀ x, s0 ≤ x → x < e → f j ≠ some (dec4 x)) → trS X f n e = trS X f n s0 := by
  intro e
  induction e with
  | zero => intro h _; have : s0 = 0 := by omega
            rw [this]
  | succ e ih =>
    intro h hno
    by_cases z : s0 = e + 1
    · rw [z]
    · simp only [trS, trI]
      rw [whoAt_none n (fun j hj => hno j hj e (by omega) (by omega))]
      exact ih (by omega) (fun j hj x h1 h2 => hno j hj x h1 (by omega))
theorem trS_put {X : Row} {f : Nat → Option Sl} {n k e : Nat} (hk : f k = some (dec4 e)) (hkn : k < n) (hi : ∀ i j s, f i = some s → f j = some s → i = j) : trS X f n (e + 1) = layK X k (trS X f n e) := by
  simp only [trS, trI]
  rw [whoAt_at hk hi n hkn]
theorem l_emptiest {σ : am_S} {base sh : Nat} (hbs : base + sh ≤ 18) (hb : ∀ p, p < 18 → 0 ≤ σ.1 69 p ∧ σ.1 69 p ≤ 1205) : ∀ p : Nat, p ≤ sh → 0 < p → AW am_tab mX5_emptiest 5 [some (vR 67), some (vI (base : Nat)), some (vI (sh : Nat)), some (vI (bestP (σ.1 69) base p : Nat)), some (vI (p : Nat))] [] σ (QI (fun z σ' => z = (bestP (σ.1 69) base sh : Nat) ∧ σ' = σ)) :=
  up_loop (fun p hp0 ih hp1 => by
    have hbl := bestP_lt (P := σ.1 69) (base := base) p hp1
    refine AW_iload dX5_emptiest_5 rfl ?_
    refine AW_iload_n dX5_emptiest_7 rfl ?_
    refine AW_icmp_ge 40 dX5_emptiest_8 (by decide) (by omega) (by omega) (fun h8 => ?_) (fun h8 => ?_)
    · refine AW_iload_n dX5_emptiest_40 rfl ?_
      refine AW_iret dX5_emptiest_41 rfl ?_
      have e : p = sh := by omega
      subst e
      exact ⟨_, rfl, rfl, rfl⟩
    · refine AW_aload_n dX5_emptiest_11 rfl ?_
      refine AW_get dX5_emptiest_12 fX5_15 rfl rfl ?_
      refine AW_iload_n dX5_emptiest_15 rfl ?_
      refine AW_iload dX5_emptiest_16 rfl ?_
      refine AW_iadd dX5_emptiest_18 ?_
      refine AW_ialdN (j := base + p) dX5_emptiest_19 rfl (Nat.le_of_ble_eq_true rfl) (by omega) (by omega) ?_
      have hb1 := hb (base + p) (by omega)
      refine AW_aload_n dX5_emptiest_20 rfl ?_
      refine AW_get dX5_emptiest_21 fX5_15 rfl rfl ?_
      refine AW_iload_n dX5_emptiest_24 rfl ?_
      refine AW_iload_n dX5_emptiest_25 rfl ?_
      refine AW_iadd dX5_emptiest_26 ?_
      refine AW_ialdN (j := base + bestP (σ.1 69) base p) dX5_emptiest_27 rfl (Nat.le_of_ble_eq_true rfl) (by omega) (by omega) ?_
      have hb2 := hb (base + bestP (σ.1 69) base p) (by omega)
      refine AW_icmp_ge 34 dX5_emptiest_28 (by decide) (by omega) (by omega) (fun h28 => ?_) (fun h28 => ?_)
      · refine AW_iinc (lv' := [_, _, _, _, _]) dX5_emptiest_34 rfl (by decide) rfl ?_
        refine AW_goto (tgt := 5) dX5_emptiest_37 (by decide) ?_
        have e : bestP (σ.1 69) base (p + 1) = if σ.1 69 (base + p) < σ.1 69 (base + bestP (σ.1 69) base p) then p else bestP (σ.1 69) base p := rfl
        first
        | (rw [if_pos (by omega)] at e; have h9 := ih (by omega) (by omega); rw [e] at h9; exact h9)
        | (rw [if_neg (by omega)] at e; have h9 := ih (by omega) (by omega); rw [e] at h9; exact h9)
      · refine AW_iload dX5_emptiest_31 rfl ?_
        refine AW_istore_n (i := 3) (lv' := [_, _, _, _, _]) dX5_emptiest_33 rfl (by decide) (Nat.le_of_ble_eq_true rfl) rfl ?_
        refine AW_iinc (lv' := [_, _, _, _, _]) dX5_emptiest_34 rfl (by decide) rfl ?_
        refine AW_goto (tgt := 5) dX5_emptiest_37 (by decide) ?_
        have e : bestP (σ.1 69) base (p + 1) = if σ.1 69 (base + p) < σ.1 69 (base + bestP (σ.1 69) base p) then p else bestP (σ.1 69) base p := rfl
        first
        | (rw [if_pos (by omega)] at e; have h9 := ih (by omega) (by omega); rw [e] at h9; exact h9)
        | (rw [if_neg (by omega)] at e; have h9 := ih (by omega) (by omega); rw [e] at h9; exact h9))
theorem c_emptiest {σ : am_S} {base sh : Nat} (hbs : base + sh ≤ 18) (hb : ∀ p, p < 18 → 0 ≤ σ.1 69 p ∧ σ.1 69 p ≤ 1205) (hsh : 0 < sh) : Runs am_tab mX5_emptiest [vR 67, vI (base : Nat), vI (sh : Nat)] σ (QI (fun z σ' => z = (bestP (σ.1 69) base sh : Nat) ∧ σ' = σ)) := by
  refine Runs.of (by decide) rfl (by simp) (Nat.le_of_ble_eq_true rfl) ?_
  show AW am_tab mX5_emptiest 0 [some (vR 67), some (vI (base : Nat)), some (vI (sh : Nat)), none, none] [] σ _
  refine AW_iconst dX5_emptiest_0 ?_
  refine AW_istore_n (i := 3) (lv' := [_, _, _, _, _]) dX5_emptiest_1 rfl (by decide) (Nat.le_of_ble_eq_true rfl) rfl ?_
  refine AW_iconst dX5_emptiest_2 ?_
  refine AW_istore (lv' := [_, _, _, _, _]) dX5_emptiest_3 (by decide) (Nat.le_of_ble_eq_true rfl) rfl ?_
  have h9 := l_emptiest hbs hb 1 (by omega) (by omega)
  rw [bestP_1] at h9
  exact h9
set_option maxHeartbeats 4000000 in
theorem l_lay {X : Row} {n q : Nat} {σ0 : am_S} {f : Nat → Option Sl} (hq : PT q) (hql : q + 6 < 67) (hn : n ≤ 20) (hC : ConC n (σ0.1 (q + 4)) (σ0.1 (q + 3)) f) (hcount : σ0.1 q 0 = (n : Nat)) (hi : ∀ i j s, f i = some s → f j = some s → i = j) (hT : WT X) (hN : WN X) (hmany : X 6423 = (n : Nat)) (hTO : TO σ0 X) (hsh : σ0.1 2 4 = X 6422) : ∀ i : Nat, i ≤ 20 → ∀ (s0 : Nat), s0 ≤ 1204 → ∀ (z : Int) (σ : am_S), Eqx [68, 69] σ0 σ → TRr (σ.1 69) (σ.1 68) (trS X f n s0) → ((z = -1 ∧ ∀ k, k < n → σ0.1 (q + 3) k ≤ (s0 : Int) - 1) ∨ ∃ k : Nat, z = k ∧ k < n ∧ (s0 : Int) - 1 < σ0.1 (q + 3) k ∧ ∀ j, j < n → (s0 : Int) - 1 < σ0.1 (q + 3) j → σ0.1 (q + 3) k ≤ σ0.1 (q + 3) j) → i ≤ cnt (fun k => decide (0 ≤ σ0.1 (q + 3) k ∧ σ0.1 (q + 3) k < s0)) n → ∀ x y : Option am_V, AW am_tab mX5_lay 26 [some (vR 67), some (vR q), some (vR 2), some (vI z), some (vI (i : Nat)), x, y] [] σ (QV (fun σ' => Eqx [68, 69] σ0 σ' ∧ TRr (σ'.1 69) (σ'.1 68) (trS X f n 1204))) :=
  up_loop (fun i hi0 ih s0 hs0 z σ hE hTR hz hcn x y => by
    have hzb : -1 ≤ z ∧ z < 20 := by
      rcases hz with ⟨rfl, _⟩ | ⟨k, rfl, h, _⟩ <;> omega
    refine AW_iload dX5_lay_26 rfl ?_
    refine AW_bipush dX5_lay_28 (by decide) ?_
    refine AW_icmp_ge 102 dX5_lay_30 (by decide) (by omega) (by omega) (fun h30 => ?_) (fun h30 => ?_)
    · have hall : ∀ k, k < n → σ0.1 (q + 3) k ≤ (s0 : Int) - 1 := by
        rcases hz with ⟨_, h⟩ | ⟨k, _, hkn, hck, _⟩
        · exact h
        · exfalso
          have h8 := cnt_add (p := fun k => decide (0 ≤ σ0.1 (q + 3) k ∧ σ0.1 (q + 3) k < s0)) (q := padd (fun k => decide (0 ≤ σ0.1 (q + 3) k ∧ σ0.1 (q + 3) k < s0)) k) hkn (decide_eq_false (by omega)) padd_at (fun x _ hx => (padd_ne (p := fun k => decide (0 ≤ σ0.1 (q + 3) k ∧ σ0.1 (q + 3) k < s0)) hx).symm)
          have h7 := cnt_le (padd (fun k => decide (0 ≤ σ0.1 (q + 3) k ∧ σ0.1 (q + 3) k < s0)) k) n
          omega
      have hskip : trS X f n 1204 = trS X f n s0 := trS_skip 1204 hs0 (fun j hj x h1 h2 hf => by
        obtain ⟨_, o2, d2⟩ := hC.2.1 j _ hf
        rw [enc4_dec] at d2
        have := hall j hj
        omega)
      rw [← hskip] at hTR
      refine AW_vret dX5_lay_102 rfl ?_
      exact ⟨rfl, hE, hTR⟩
    · refine AW_iload_n dX5_lay_33 rfl ?_
      refine AW_if_lt 102 dX5_lay_34 (by decide) (by omega) (fun h34 => ?_) (fun h34 => ?_)
      · have hall : ∀ k, k < n → σ0.1 (q + 3) k ≤ (s0 : Int) - 1 := by
          rcases hz with ⟨_, h⟩ | ⟨k, rfl, _⟩
          · exact h
          · omega
        have hskip : trS X f n 1204 = trS X f n s0 := trS_skip 1204 hs0 (fun j hj x h1 h2 hf => by
          obtain ⟨_, o2, d2⟩ := hC.2.1 j _ hf
          rw [enc4_dec] at d2
          have := hall j hj
          omega)
        rw [← hskip] at hTR
        refine AW_vret dX5_lay_102 rfl ?_
        exact ⟨rfl, hE, hTR⟩
      · obtain ⟨k, hzk, hkn, hck, hmin⟩ : ∃ k : Nat, z = k ∧ k < n ∧ (s0 : Int) - 1 < σ0.1 (q + 3) k ∧ ∀ j, j < n → (s0 : Int) - 1 < σ0.1 (q + 3) j → σ0.1 (q + 3) k ≤ σ0.1 (q + 3) j := by
          rcases hz with ⟨rfl, _⟩ | h
          · omega
          · exact h
        subst hzk
        obtain ⟨s, hfk, hsok, hSk⟩ : ∃ s, f k = some s ∧ okS s ∧ σ0.1 (q + 3) k = enc4 s := by
          rcases hC.at (k := k) (by omega) with ⟨_, h1, _⟩ | ⟨s, h1, h2, h3, _⟩
          · omega
          · exact ⟨s, h1, h2, h3⟩
        have hsl := enc4_lt hsok
        have hskip : trS X f n (enc4 s) = trS X f n s0 := trS_skip (enc4 s) (by omega) (fun j hj x h1 h2 hf => by
          obtain ⟨_, o2, d2⟩ := hC.2.1 j _ hf
          rw [enc4_dec] at d2
          have := hmin j hj (by omega)
          omega)
        rw [← hskip] at hTR
        have hput : trS X f n (enc4 s + 1) = layK X k (trS X f n (enc4 s)) := trS_put (by rw [dec4_enc hsok]; exact hfk) hkn hi
        have hTk := hT.2 k (by omega)
        have hsX : (shX X : Int) = X 6422 := by unfold shX; have := hN.2; omega
        have hkX : (kdX X k : Int) = X (361 + k) := by unfold kdX; omega
        have hNs := hN.2
        have hTb := trS_b (X := X) (pl := f) (n := n) (enc4 s)
        have hPb : ∀ p, p < 18 → 0 ≤ σ.1 69 p ∧ σ.1 69 p ≤ 1205 := fun p hp => by
          rw [hTR.1 p hp]
          have := hTb p
          omega
        have hbl := bestP_lt (P := (trS X f n (enc4 s)).1) (base := 6 * kdX X k) (shX X) (by omega)
        have hbc : bestP (σ.1 69) (6 * kdX X k) (shX X) = bestP (trS X f n (enc4 s)).1 (6 * kdX X k) (shX X) := bestP_congr _ (fun i hi => hTR.1 _ (by omega))
        refine AW_aload_n dX5_lay_37 rfl ?_
        refine AW_get dX5_lay_38 fX5_30 rfl rfl ?_
        refine AW_get dX5_lay_41 fX5_36 rfl rfl ?_
        refine AW_iload_n dX5_lay_44 rfl ?_
        refine AW_ialdN (j := k) dX5_lay_45 rfl (Nat.le_of_ble_eq_true rfl) (by omega) (by omega) ?_
        rw [hE.1 11 (by simp), (hTO.2 k (by omega)).2.2.2, ← hkX]
        refine AW_bipush dX5_lay_46 (by decide) ?_
        refine AW_imul dX5_lay_48 ?_
        rw [show (kdX X k : Int) * 6 = ((6 * kdX X k : Nat) : Int) by omega]
        refine AW_istore (lv' := [_, _, _, _, _, _, _]) dX5_lay_49 (by decide) (Nat.le_of_ble_eq_true rfl) rfl ?_
        refine AW_aload_n dX5_lay_51 rfl ?_
        refine AW_iload dX5_lay_52 rfl ?_
        refine AW_aload_n dX5_lay_54 rfl ?_
        refine AW_get dX5_lay_55 fX5_41 rfl rfl ?_
        rw [hE.1 2 (by simp), hsh, ← hsX]
        refine AW_cVI2 dX5_lay_58 kX5_45 (am_fit_b rfl) rfl rfl (Nat.le_of_ble_eq_true rfl) (c_emptiest (base := 6 * kdX X k) (sh := shX X) (by omega) hPb (by omega)) (fun z σ' hq2 => ?_)
        obtain ⟨hz2, hs2⟩ := hq2
        subst hz2
        replace hs2 := hs2.symm
        subst hs2
        rw [hbc]
        refine AW_istore (lv' := [_, _, _, _, _, _, _]) dX5_lay_61 (by decide) (Nat.le_of_ble_eq_true rfl) rfl ?_
        refine AW_aload_n dX5_lay_63 rfl ?_
        refine AW_get dX5_lay_64 fX5_9 rfl rfl ?_
        refine AW_iload_n dX5_lay_67 rfl ?_
        refine AW_iload dX5_lay_68 rfl ?_
        refine AW_iastN (j := k) dX5_lay_70 rfl (Nat.le_of_ble_eq_true rfl) (by omega) (by omega) ?_
        refine AW_aload_n dX5_lay_71 rfl ?_
        refine AW_get dX5_lay_72 fX5_15 rfl rfl ?_
        refine AW_iload dX5_lay_75 rfl ?_
        refine AW_iload dX5_lay_77 rfl ?_
        refine AW_iadd dX5_lay_79 ?_
        refine AW_dup2 dX5_lay_80 ?_
        refine AW_ialdN (j := 6 * kdX X k + bestP (trS X f n (enc4 s)).1 (6 * kdX X k) (shX X)) dX5_lay_81 rfl (Nat.le_of_ble_eq_true rfl) (by omega) (by omega) ?_
        rw [am_up_other (by decide : (69 : Nat) ≠ 68), hTR.1 _ (by omega)]
        refine AW_iconst dX5_lay_82 ?_
        refine AW_iadd dX5_lay_83 ?_
        refine AW_iastN (j := 6 * kdX X k + bestP (trS X f n (enc4 s)).1 (6 * kdX X k) (shX X)) dX5_lay_84 rfl (Nat.le_of_ble_eq_true rfl) (by omega) (by omega) ?_
        refine AW_aload_n dX5_lay_85 rfl ?_
        refine AW_aload_n dX5_lay_86 rfl ?_
        refine AW_getN dX5_lay_87 fX5_49 hq.1 rfl ?_
        refine AW_iload_n dX5_lay_90 rfl ?_
        refine AW_ialdN (j := k) dX5_lay_91 hq.2.2.2.1 (Nat.le_of_ble_eq_true rfl) (by omega) (by omega) ?_
        rw [show (am_up (am_up σ 68 k (bestP (trS X f n (enc4 s)).1 (6 * kdX X k) (shX X) : Nat)) 69 (6 * kdX X k + bestP (trS X f n (enc4 s)).1 (6 * kdX X k) (shX X)) ((trS X f n (enc4 s)).1 (6 * kdX X k + bestP (trS X f n (enc4 s)).1 (6 * kdX X k) (shX X)) + 1)).1 (q + 3) k = enc4 s by rw [am_up_other (by omega), am_up_other (by omega), hE.1 (q + 3) (by simp; omega)]; exact hSk]
        have hE2 : Eqx [68, 69] σ0 (am_up (am_up σ 68 k (bestP (trS X f n (enc4 s)).1 (6 * kdX X k) (shX X) : Nat)) 69 (6 * kdX X k + bestP (trS X f n (enc4 s)).1 (6 * kdX X k) (shX X)) ((trS X f n (enc4 s)).1 (6 * kdX X k + bestP (trS X f n (enc4 s)).1 (6 * kdX X k) (shX X)) + 1)) := (hE.up (by simp)).up (by simp)
        have hTR2 : TRr ((am_up (am_up σ 68 k (bestP (trS X f n (enc4 s)).1 (6 * kdX X k) (shX X) : Nat)) 69 (6 * kdX X k + bestP (trS X f n (enc4 s)).1 (6 * kdX X k) (shX X)) ((trS X f n (enc4 s)).1 (6 * kdX X k + bestP (trS X f n (enc4 s)).1 (6 * kdX X k) (shX X)) + 1)).1 69) ((am_up (am_up σ 68 k (bestP (trS X f n (enc4 s)).1 (6 * kdX X k) (shX X) : Nat)) 69 (6 * kdX X k + bestP (trS X f n (enc4 s)).1 (6 * kdX X k) (shX X)) ((trS X f n (enc4 s)).1 (6 * kdX X k + bestP (trS X f n (enc4 s)).1 (6 * kdX X k) (shX X)) + 1)).1 68) (trS X f n (enc4 s + 1)) := by
          rw [am_up_same, am_up_other (by decide : (69 : Nat) ≠ 68), am_up_other (by decide : (68 : Nat) ≠ 69), am_up_same, hput]
          exact hTR.lay
        refine AW_cVI1 dX5_lay_92 kX5_24 (am_fit_b rfl) hq.1 rfl (Nat.le_of_ble_eq_true rfl) (c_nextTaken (n := n) (f := f) hq hn (by rw [hE2.1 (q + 4) (by simp; omega), hE2.1 (q + 3) (by simp; omega)]; exact hC) (by rw [hE2.1 q (by simp; omega)]; exact hcount) (c := (enc4 s : Nat)) (by omega)) (fun z σ' hq3 => ?_)
        obtain ⟨hz3, hs3⟩ := hq3
        replace hs3 := hs3.symm
        subst hs3
        rw [hE2.1 (q + 3) (by simp; omega)] at hz3
        refine AW_istore_n (i := 3) (lv' := [_, _, _, _, _, _, _]) dX5_lay_95 rfl (by decide) (Nat.le_of_ble_eq_true rfl) rfl ?_
        refine AW_iinc (lv' := [_, _, _, _, _, _, _]) dX5_lay_96 rfl (by decide) rfl ?_
        refine AW_goto (tgt := 26) dX5_lay_99 (by decide) ?_
        refine ih (by omega) (enc4 s + 1) (by omega) _ _ hE2 hTR2 ?_ ?_ _ _
        · rw [show (((enc4 s + 1 : Nat) : Int) - 1) = (enc4 s : Nat) by omega]
          exact hz3
        · have h8 := cnt_add (p := fun k => decide (0 ≤ σ0.1 (q + 3) k ∧ σ0.1 (q + 3) k < s0)) (q := padd (fun k => decide (0 ≤ σ0.1 (q + 3) k ∧ σ0.1 (q + 3) k < s0)) k) hkn (decide_eq_false (by omega)) padd_at (fun x _ hx => (padd_ne (p := fun k => decide (0 ≤ σ0.1 (q + 3) k ∧ σ0.1 (q + 3) k < s0)) hx).symm)
          have h7 : cnt (padd (fun k => decide (0 ≤ σ0.1 (q + 3) k ∧ σ0.1 (q + 3) k < s0)) k) n ≤ cnt (fun k => decide (0 ≤ σ0.1 (q + 3) k ∧ σ0.1 (q + 3) k < ((enc4 s + 1 : Nat) : Int))) n := cnt_mono (fun j hj h => by
            by_cases e : j = k
            · subst e
              exact decide_eq_true (by omega)
            · rw [padd_ne e, decide_eq_true_eq] at h
              exact decide_eq_true (by omega))
          omega)
theorem c_lay {X : Row} {n q : Nat} {σ0 : am_S} {f : Nat → Option Sl} (hq : PT q) (hql : q + 6 < 67) (hn : n ≤ 20) (hC : ConC n (σ0.1 (q + 4)) (σ0.1 (q + 3)) f) (hcount : σ0.1 q 0 = (n : Nat)) (hi : ∀ i j s, f i = some s → f j = some s → i = j) (hT : WT X) (hN : WN X) (hmany : X 6423 = (n : Nat)) (hTO : TO σ0 X) (hsh : σ0.1 2 4 = X 6422) : Runs am_tab mX5_lay [vR 67, vR q, vR 2] σ0 (QV (fun σ' => Eqx [68, 69] σ0 σ' ∧ TRr (σ'.1 69) (σ'.1 68) (trS X f n 1204))) := by
  refine Runs.of (by decide) rfl (by simp) (Nat.le_of_ble_eq_true rfl) ?_
  show AW am_tab mX5_lay 0 [some (vR 67), some (vR q), some (vR 2), none, none, none, none] [] σ0 _
  refine AW_aload_n dX5_lay_0 rfl ?_
  refine AW_get dX5_lay_1 fX5_9 rfl rfl ?_
  refine AW_bipush dX5_lay_4 (by decide) ?_
  refine AW_cSV2 dX5_lay_6 kX5_18 (am_fit_b rfl) (Nat.le_of_ble_eq_true rfl) (c_fill (n := 20) rfl (by decide)) (fun σ' hq2 => ?_)
  replace hq2 := hq2.symm
  subst hq2
  refine AW_aload_n dX5_lay_9 rfl ?_
  refine AW_get dX5_lay_10 fX5_15 rfl rfl ?_
  refine AW_iconst dX5_lay_13 ?_
  refine AW_cSV2 dX5_lay_14 kX5_18 (am_fit_b rfl) (Nat.le_of_ble_eq_true rfl) (c_fill (n := 18) rfl (by decide)) (fun σ' hq2 => ?_)
  replace hq2 := hq2.symm
  subst hq2
  have hE2 : Eqx [68, 69] σ0 (am_row (am_row σ0 68 20 (fun _ => -6)) 69 18 (fun _ => 0)) := (Eqx.rf.row (by simp)).row (by simp)
  refine AW_aload_n dX5_lay_17 rfl ?_
  refine AW_iconst dX5_lay_18 ?_
  refine AW_cVI1 dX5_lay_19 kX5_24 (am_fit_b rfl) hq.1 rfl (Nat.le_of_ble_eq_true rfl) (c_nextTaken (n := n) (f := f) hq hn (by rw [hE2.1 (q + 4) (by simp; omega), hE2.1 (q + 3) (by simp; omega)]; exact hC) (by rw [hE2.1 q (by simp; omega)]; exact hcount) (c := -1) (by omega)) (fun z σ' hq3 => ?_)
  obtain ⟨hz3, hs3⟩ := hq3
  replace hs3 := hs3.symm
  subst hs3
  rw [hE2.1 (q + 3) (by simp; omega)] at hz3
  refine AW_istore_n (i := 3) (lv' := [_, _, _, _, _, _, _]) dX5_lay_22 rfl (by decide) (Nat.le_of_ble_eq_true rfl) rfl ?_
  refine AW_iconst dX5_lay_23 ?_
  refine AW_istore (lv' := [_, _, _, _, _, _, _]) dX5_lay_24 (by decide) (Nat.le_of_ble_eq_true rfl) rfl ?_
  refine l_lay hq hql hn hC hcount hi hT hN hmany hTO hsh 0 (Nat.zero_le _) 0 (Nat.zero_le _) _ _ hE2 ⟨fun p hp => ?_, fun k hk => ?_⟩ hz3 (Nat.zero_le _) _ _
  · rw [am_row_at hp]; rfl
  · rw [am_row_other (by decide), am_row_at hk]; rfl
