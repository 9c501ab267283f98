/-! ===== the class's THINGS: their bits ===== -/
def sb (x : Int64) (i : Nat) : Bool := x.toBitVec.getLsbD i
theorem td64 (t : Nat) : (t : Int).tdiv 64 = ((t / 64 : Nat) : Int) := by
  rw [Int.tdiv_eq_ediv_of_nonneg (by omega)]
  omega
theorem tm64 (t : Nat) : (t : Int).tmod 64 = ((t % 64 : Nat) : Int) := by
  rw [Int.tmod_eq_emod_of_nonneg (by omega)]
  omega
theorem sh_amt : ∀ r : Fin 64, ((Int32.ofInt (r.val : Int)).toInt64.toUInt64 &&& Int64.toUInt64 63).toNat % 64 = r.val := by decide +kernel
theorem sb_read {x : Int64} {r : Nat} (hr : r < 64) : (x.toUInt64 >>> ((Int32.ofInt (r : Int)).toInt64.toUInt64 &&& Int64.toUInt64 63)).toInt64 &&& 1 = if sb x r = true then 1 else 0 := by
  have h1 := wN_shr (x := x) (sh_amt ⟨r, hr⟩)
  have h3 : sb x r = decide (wN x / 2 ^ r % 2 = 1) := Nat.testBit_eq_decide_div_mod_eq
  have h2 : wN 1 = 1 := by decide +kernel
  have h0 : wN 0 = 0 := by decide +kernel
  apply Int64.toBitVec.inj
  apply BitVec.eq_of_toNat_eq
  have h4 : wN ((x.toUInt64 >>> ((Int32.ofInt (r : Int)).toInt64.toUInt64 &&& Int64.toUInt64 63)).toInt64 &&& 1) = wN x / 2 ^ r % 2 := by
    rw [wN_and, h1, h2, Nat.and_one_is_mod]
  refine Eq.trans h4 ?_
  rw [h3]
  by_cases e : wN x / 2 ^ r % 2 = 1
  · rw [e]
    exact h2.symm
  · rw [if_neg (by simpa using e)]
    refine Eq.trans ?_ h0.symm
    omega
theorem sh_one : ∀ r : Fin 64, ((1 : Int64) <<< ((Int32.ofInt (r.val : Int)).toInt64 &&& 63)).toBitVec = BitVec.twoPow 64 r.val := by decide +kernel
theorem sb_mark {x : Int64} {r i : Nat} (hr : r < 64) : sb (x ||| ((1 : Int64) <<< ((Int32.ofInt (r : Int)).toInt64 &&& 63))) i = (sb x i || decide (r = i)) := by
  unfold sb
  rw [Int64.toBitVec_or, BitVec.getLsbD_or, sh_one ⟨r, hr⟩, BitVec.getLsbD_twoPow]
  simp [hr]
theorem sb_0 {i : Nat} : sb 0 i = false := by
  unfold sb
  show (0#64).getLsbD i = false
  exact BitVec.getLsbD_zero
/-- the bit of THING k at TICK t -/
def sbA (σ : am_S) (k t : Nat) : Bool := sb (σ.2 12 (5 * k + t / 64)) (t % 64)
def SN (σ : am_S) (X : Row) : Prop := ∀ k : Nat, (k : Int) < X 6423 → ∀ t, t < 320 → sbA σ k t = decide (t ≤ 300 ∧ X (381 + 301 * k + t) = 1)
theorem cnt_split (p : Nat → Bool) (a : Nat) : ∀ b, cnt p (a + b) = cnt p a + cnt (fun i => p (a + i)) b := by
  intro b
  induction b with
  | zero => rfl
  | succ b ih =>
    have e : cnt p (a + (b + 1)) = cnt p (a + b) + (if p (a + b) = true then 1 else 0) := rfl
    rw [e, ih]
    simp only [cnt]
    omega
theorem seenN_cnt {X : Row} {k : Nat} {p : Nat → Bool} (h : ∀ t, t < 320 → p t = decide (t ≤ 300 ∧ X (381 + 301 * k + t) = 1)) : ((cnt p 320 : Nat) : Int) = seenN X k 301 := by
  have h1 : ∀ t, t ≤ 301 → ((cnt p t : Nat) : Int) = seenN X k t := by
    intro t
    induction t with
    | zero => intro _; rfl
    | succ t ih =>
      intro ht
      have e : cnt p (t + 1) = cnt p t + (if p t = true then 1 else 0) := rfl
      have e2 : seenN X k (t + 1) = seenN X k t + (if X (381 + 301 * k + t) = 1 then 1 else 0) := rfl
      rw [e, e2, ← ih (by omega), h t (by omega)]
      by_cases q : X (381 + 301 * k + t) = 1
      · rw [if_pos q, if_pos (by simp only [decide_eq_true_eq]; omega)]
        omega
      · rw [if_neg q, if_neg (by simp only [decide_eq_true_eq]; omega)]
        omega
  have e : cnt p 320 = cnt p 301 + cnt (fun i => p (301 + i)) 19 := cnt_split p 301 19
  have e2 : cnt (fun i => p (301 + i)) 19 = 0 := cnt_none (fun t ht q => by
    rw [h (301 + t) (by omega)] at q
    have := of_decide_eq_true q
    omega)
  rw [← h1 301 (by omega), e, e2, Nat.add_zero]
theorem c_wasSeen {σ : am_S} {X : Row} (hT : WT X) (hSN : SN σ X) {k t : Nat} (hk : (k : Int) < X 6423) (ht : t ≤ 300) : Runs am_tab mX4_wasSeen [vR 7, vI k, vI t] σ (QB (X (381 + 301 * k + t) = 1) σ) := by
  refine Runs.of (by decide) rfl (by simp) (Nat.le_of_ble_eq_true rfl) ?_
  show AW am_tab mX4_wasSeen 0 [some (vR 7), some (vI k), some (vI t)] [] σ _
  have hM := hT.1
  have hr : t % 64 < 64 := Nat.mod_lt _ (by decide)
  have hb := hSN k hk t (by omega)
  unfold sbA at hb
  refine AW_aload_n dX4_wasSeen_0 rfl ?_
  refine AW_get dX4_wasSeen_1 fX4_28 rfl rfl ?_
  refine AW_iload_n dX4_wasSeen_4 rfl ?_
  refine AW_iconst dX4_wasSeen_5 ?_
  refine AW_imul dX4_wasSeen_6 ?_
  refine AW_iload_n dX4_wasSeen_7 rfl ?_
  refine AW_bipush dX4_wasSeen_8 (by decide) ?_
  refine AW_idiv dX4_wasSeen_10 (by omega) (by omega) (by omega) ?_
  rw [td64]
  refine AW_iadd dX4_wasSeen_11 ?_
  refine AW_laldN (j := 5 * k + t / 64) dX4_wasSeen_12 rfl (Nat.le_of_ble_eq_true rfl) (by omega) (by omega) ?_
  refine AW_iload_n dX4_wasSeen_13 rfl ?_
  refine AW_bipush dX4_wasSeen_14 (by decide) ?_
  refine AW_irem dX4_wasSeen_16 (by omega) (by omega) (by omega) ?_
  rw [tm64]
  refine AW_lushr dX4_wasSeen_17 rfl ?_
  refine AW_lconst (v := 1) dX4_wasSeen_18 rfl ?_
  refine AW_land dX4_wasSeen_19 ?_
  rw [sb_read hr, hb]
  refine AW_lconst (v := 0) dX4_wasSeen_20 rfl ?_
  refine AW_lcmp (z := if X (381 + 301 * k + t) = 1 then 1 else 0) dX4_wasSeen_21 ?_ ?_
  · by_cases q : X (381 + 301 * k + t) = 1
    · rw [if_pos q, if_pos (by simp only [decide_eq_true_eq]; omega)]
      decide
    · rw [if_neg q, if_neg (by simp only [decide_eq_true_eq]; omega)]
      decide
  refine AW_if_eq 29 dX4_wasSeen_22 (by decide) (by split <;> omega) (fun h22 => ?_) (fun h22 => ?_)
  · refine AW_iconst dX4_wasSeen_29 ?_
    refine AW_zret dX4_wasSeen_30 rfl (by first | exact Or.inl rfl | exact Or.inr rfl) ?_
    refine ⟨_, rfl, rfl, ?_⟩
    split at h22
    · first | exact Or.inl ⟨rfl, by omega⟩ | (exfalso; omega)
    · first | exact Or.inr ⟨rfl, by omega⟩ | (exfalso; omega)
  · refine AW_iconst dX4_wasSeen_25 ?_
    refine AW_goto (tgt := 30) dX4_wasSeen_26 (by decide) ?_
    refine AW_zret dX4_wasSeen_30 rfl (by first | exact Or.inl rfl | exact Or.inr rfl) ?_
    refine ⟨_, rfl, rfl, ?_⟩
    split at h22
    · first | exact Or.inl ⟨rfl, by omega⟩ | (exfalso; omega)
    · first | exact Or.inr ⟨rfl, by omega⟩ | (exfalso; omega)
def mkS (σ : am_S) (k t : Nat) : am_S := am_upL σ 12 (5 * k + t / 64) (σ.2 12 (5 * k + t / 64) ||| ((1 : Int64) <<< ((Int32.ofInt ((t % 64 : Nat) : Int)).toInt64 &&& 63)))
theorem c_markSeen {σ : am_S} {k t : Nat} (hk : k < 20) (ht : t ≤ 300) : Runs am_tab mX4_markSeen [vR 7, vI k, vI t] σ (QV (fun σ' => σ' = mkS σ k t)) := by
  refine Runs.of (by decide) rfl (by simp) (Nat.le_of_ble_eq_true rfl) ?_
  show AW am_tab mX4_markSeen 0 [some (vR 7), some (vI k), some (vI t)] [] σ _
  have hr : t % 64 < 64 := Nat.mod_lt _ (by decide)
  refine AW_aload_n dX4_markSeen_0 rfl ?_
  refine AW_get dX4_markSeen_1 fX4_28 rfl rfl ?_
  refine AW_iload_n dX4_markSeen_4 rfl ?_
  refine AW_iconst dX4_markSeen_5 ?_
  refine AW_imul dX4_markSeen_6 ?_
  refine AW_iload_n dX4_markSeen_7 rfl ?_
  refine AW_bipush dX4_markSeen_8 (by decide) ?_
  refine AW_idiv dX4_markSeen_10 (by omega) (by omega) (by omega) ?_
  rw [td64]
  refine AW_iadd dX4_markSeen_11 ?_
  refine AW_dup2 dX4_markSeen_12 ?_
  refine AW_laldN (j := 5 * k + t / 64) dX4_markSeen_13 rfl (Nat.le_of_ble_eq_true rfl) (by omega) (by omega) ?_
  refine AW_lconst (v := 1) dX4_markSeen_14 rfl ?_
  refine AW_iload_n dX4_markSeen_15 rfl ?_
  refine AW_bipush dX4_markSeen_16 (by decide) ?_
  refine AW_irem dX4_markSeen_18 (by omega) (by omega) (by omega) ?_
  rw [tm64]
  refine AW_lshl dX4_markSeen_19 rfl ?_
  refine AW_lor dX4_markSeen_20 ?_
  refine AW_lastN (j := 5 * k + t / 64) dX4_markSeen_21 rfl (Nat.le_of_ble_eq_true rfl) (by omega) (by omega) ?_
  refine AW_vret dX4_markSeen_22 rfl ?_
  exact ⟨rfl, rfl⟩
theorem mkS_1 {σ : am_S} {k t : Nat} : (mkS σ k t).1 = σ.1 := rfl
theorem mkS_2 {σ : am_S} {k t a : Nat} (h : a ≠ 12) : (mkS σ k t).2 a = σ.2 a := by
  funext j
  show (if a = 12 ∧ j = _ then _ else _) = _
  exact if_neg (fun e => h e.1)
theorem mkS_bit {σ : am_S} {k t : Nat} {j u : Nat} (hu : u < 320) (ht : t ≤ 300) : sbA (mkS σ k t) j u = (sbA σ j u || decide (j = k ∧ u = t)) := by
  unfold sbA
  by_cases h : 5 * j + u / 64 = 5 * k + t / 64
  · have e : (mkS σ k t).2 12 (5 * j + u / 64) = σ.2 12 (5 * k + t / 64) ||| ((1 : Int64) <<< ((Int32.ofInt ((t % 64 : Nat) : Int)).toInt64 &&& 63)) := if_pos ⟨rfl, h⟩
    rw [e, sb_mark (Nat.mod_lt _ (by decide)), h]
    congr 1
    apply decide_eq_decide.mpr
    omega
  · have e : (mkS σ k t).2 12 (5 * j + u / 64) = σ.2 12 (5 * j + u / 64) := if_neg (fun e => h e.2)
    rw [e]
    have : decide (j = k ∧ u = t) = false := decide_eq_false (fun e => h (by rw [e.1, e.2]))
    rw [this, Bool.or_false]
theorem l_timesSeen {σ : am_S} {k : Nat} (hk : k < 20) {Q : Option am_V → am_S → Prop} (hQ : Q (some (vI ((cnt (sbA σ k) 320 : Nat) : Int))) σ) : ∀ i, i ≤ 5 → AW am_tab mX4_timesSeen 6 [some (vR 7), some (vI k), some (vI ((cnt (sbA σ k) (64 * i) : Nat) : Int)), some (vI ((5 * k + i : Nat) : Int))] [] σ Q :=
  up_loop (fun i hi ih => by
    refine AW_iload_n dX4_timesSeen_6 rfl ?_
    refine AW_iload_n dX4_timesSeen_7 rfl ?_
    refine AW_iconst dX4_timesSeen_8 ?_
    refine AW_iadd dX4_timesSeen_9 ?_
    refine AW_iconst dX4_timesSeen_10 ?_
    refine AW_imul dX4_timesSeen_11 ?_
    refine AW_icmp_ge 33 dX4_timesSeen_12 (by decide) (by omega) (by omega) (fun h12 => ?_) (fun h12 => ?_)
    · refine AW_iload_n dX4_timesSeen_33 rfl ?_
      refine AW_iret dX4_timesSeen_34 rfl ?_
      have e : i = 5 := by omega
      subst e
      exact hQ
    · refine AW_iload_n dX4_timesSeen_15 rfl ?_
      refine AW_aload_n dX4_timesSeen_16 rfl ?_
      refine AW_get dX4_timesSeen_17 fX4_28 rfl rfl ?_
      refine AW_iload_n dX4_timesSeen_20 rfl ?_
      refine AW_laldN (j := 5 * k + i) dX4_timesSeen_21 rfl (Nat.le_of_ble_eq_true rfl) (by omega) (by omega) ?_
      refine AW_cSI1 dX4_timesSeen_22 kX4_42 (am_fit_b rfl) (Nat.le_of_ble_eq_true rfl) (c_bitCount) (fun z σ' hq => ?_)
      obtain ⟨hz, hs⟩ := hq
      replace hz := hz.symm
      subst hz
      replace hs := hs.symm
      subst hs
      refine AW_iadd dX4_timesSeen_25 ?_
      refine AW_istore_n (i := 2) (lv' := [_, _, _, _]) dX4_timesSeen_26 rfl (by decide) (Nat.le_of_ble_eq_true rfl) rfl ?_
      refine AW_iinc (lv' := [_, _, _, _]) dX4_timesSeen_27 rfl (by decide) rfl ?_
      refine AW_goto (tgt := 6) dX4_timesSeen_30 (by decide) ?_
      have e : cnt (sbA σ k) (64 * (i + 1)) = cnt (sbA σ k) (64 * i) + cnt (fun j => (σ.2 12 (5 * k + i)).toBitVec.getLsbD j) 64 := by
        rw [show 64 * (i + 1) = 64 * i + 64 by omega, cnt_split]
        congr 1
        apply cnt_congr
        intro j hj
        show sb (σ.2 12 (5 * k + (64 * i + j) / 64)) ((64 * i + j) % 64) = _
        rw [show (64 * i + j) / 64 = i by omega, show (64 * i + j) % 64 = j by omega]
        rfl
      have h9 := ih (by omega)
      rw [e] at h9
      exact h9)
theorem c_timesSeen {σ : am_S} {X : Row} (hT : WT X) (hSN : SN σ X) {k : Nat} (hk : (k : Int) < X 6423) : Runs am_tab mX4_timesSeen [vR 7, vI k] σ (QI (fun z σ' => z = seenN X k 301 ∧ σ' = σ)) := by
  refine Runs.of (by decide) rfl (by simp) (Nat.le_of_ble_eq_true rfl) ?_
  show AW am_tab mX4_timesSeen 0 [some (vR 7), some (vI k), none, none] [] σ _
  have hM := hT.1
  refine AW_iconst dX4_timesSeen_0 ?_
  refine AW_istore_n (i := 2) (lv' := [_, _, _, _]) dX4_timesSeen_1 rfl (by decide) (Nat.le_of_ble_eq_true rfl) rfl ?_
  refine AW_iload_n dX4_timesSeen_2 rfl ?_
  refine AW_iconst dX4_timesSeen_3 ?_
  refine AW_imul dX4_timesSeen_4 ?_
  refine AW_istore_n (i := 3) (lv' := [_, _, _, _]) dX4_timesSeen_5 rfl (by decide) (Nat.le_of_ble_eq_true rfl) rfl ?_
  rw [show (k : Int) * 5 = ((5 * k + 0 : Nat) : Int) by omega]
  exact l_timesSeen (by omega) ⟨_, rfl, seenN_cnt (fun t ht => hSN k hk t ht), rfl⟩ 0 (by omega)
theorem l_seenOften {σ : am_S} {X : Row} (hT : WT X) (hSN : SN σ X) (hTO : TO σ X) : ∀ i, i ≤ (X 6423).toNat → AW am_tab mX4_seenOften 4 [some (vR 7), some (vI (seen2 X i)), some (vI i)] [] σ (QI (fun z σ' => z = seen2 X (X 6423).toNat ∧ σ' = σ)) :=
  up_loop (fun i hi ih => by
    have hM := hT.1
    have hc := hTO.1
    refine AW_iload_n dX4_seenOften_4 rfl ?_
    refine AW_aload_n dX4_seenOften_5 rfl ?_
    refine AW_get dX4_seenOften_6 fX4_11 rfl rfl ?_
    refine AW_icmp_ge 30 dX4_seenOften_9 (by decide) (by omega) (by omega) (fun h9 => ?_) (fun h9 => ?_)
    · refine AW_iload_n dX4_seenOften_30 rfl ?_
      refine AW_iret dX4_seenOften_31 rfl ?_
      have e : i = (X 6423).toNat := by omega
      subst e
      exact ⟨_, rfl, rfl, rfl⟩
    · refine AW_aload_n dX4_seenOften_12 rfl ?_
      refine AW_iload_n dX4_seenOften_13 rfl ?_
      refine AW_cVI1 dX4_seenOften_14 kX4_48 (am_fit_b rfl) rfl rfl (Nat.le_of_ble_eq_true rfl) (c_timesSeen hT hSN (by omega)) (fun z σ' hq => ?_)
      obtain ⟨hz, hs⟩ := hq
      replace hz := hz.symm
      subst hz
      replace hs := hs.symm
      subst hs
      have hb := seenN_b (X := X) (k := i) 301
      refine AW_iconst dX4_seenOften_17 ?_
      refine AW_icmp_le 24 dX4_seenOften_18 (by decide) (by omega) (by omega) (fun h18 => ?_) (fun h18 => ?_)
      · refine AW_iinc (lv' := [_, _, _]) dX4_seenOften_24 rfl (by decide) rfl ?_
        refine AW_goto (tgt := 4) dX4_seenOften_27 (by decide) ?_
        have e : seen2 X (i + 1) = seen2 X i + _ := rfl
        first
        | rw [if_pos (by omega)] at e
        | rw [if_neg (by omega), Int.add_zero] at e
        rw [← e]
        exact ih (by omega)
      · refine AW_iinc (lv' := [_, _, _]) dX4_seenOften_21 rfl (by decide) rfl ?_
        refine AW_iinc (lv' := [_, _, _]) dX4_seenOften_24 rfl (by decide) rfl ?_
        refine AW_goto (tgt := 4) dX4_seenOften_27 (by decide) ?_
        have e : seen2 X (i + 1) = seen2 X i + _ := rfl
        first
        | rw [if_pos (by omega)] at e
        | rw [if_neg (by omega), Int.add_zero] at e
        rw [← e]
        exact ih (by omega))
theorem c_seenOften {σ : am_S} {X : Row} (hT : WT X) (hSN : SN σ X) (hTO : TO σ X) : Runs am_tab mX4_seenOften [vR 7] σ (QI (fun z σ' => z = seen2 X (X 6423).toNat ∧ σ' = σ)) := by
  refine Runs.of (by decide) rfl (by simp) (Nat.le_of_ble_eq_true rfl) ?_
  show AW am_tab mX4_seenOften 0 [some (vR 7), none, none] [] σ _
  refine AW_iconst dX4_seenOften_0 ?_
  refine AW_istore_n (i := 1) (lv' := [_, _, _]) dX4_seenOften_1 rfl (by decide) (Nat.le_of_ble_eq_true rfl) rfl ?_
  refine AW_iconst dX4_seenOften_2 ?_
  refine AW_istore_n (i := 2) (lv' := [_, _, _]) dX4_seenOften_3 rfl (by decide) (Nat.le_of_ble_eq_true rfl) rfl ?_
  exact l_seenOften hT hSN hTO 0 (by omega)
theorem l_ofKind {σ : am_S} {X : Row} (hT : WT X) (hTO : TO σ X) {kd : Int} (hkd : -2147483648 ≤ kd ∧ kd < 2147483648) : ∀ i, i ≤ (X 6423).toNat → AW am_tab mX4_ofKind 4 [some (vR 7), some (vI kd), some (vI (kindN X kd i)), some (vI i)] [] σ (QI (fun z σ' => z = kindN X kd (X 6423).toNat ∧ σ' = σ)) :=
  up_loop (fun i hi ih => by
    have hM := hT.1
    have hc := hTO.1
    refine AW_iload_n dX4_ofKind_4 rfl ?_
    refine AW_aload_n dX4_ofKind_5 rfl ?_
    refine AW_get dX4_ofKind_6 fX4_11 rfl rfl ?_
    refine AW_icmp_ge 31 dX4_ofKind_9 (by decide) (by omega) (by omega) (fun h9 => ?_) (fun h9 => ?_)
    · refine AW_iload_n dX4_ofKind_31 rfl ?_
      refine AW_iret dX4_ofKind_32 rfl ?_
      have e : i = (X 6423).toNat := by omega
      subst e
      exact ⟨_, rfl, rfl, rfl⟩
    · have hi2 : (i : Int) < X 6423 := by omega
      have hk2 := hT.2 i hi2
      have hk3 := hTO.2 i hi2
      refine AW_aload_n dX4_ofKind_12 rfl ?_
      refine AW_get dX4_ofKind_13 fX4_25 rfl rfl ?_
      refine AW_iload_n dX4_ofKind_16 rfl ?_
      refine AW_ialdN (j := i) dX4_ofKind_17 rfl (Nat.le_of_ble_eq_true rfl) (by omega) (by omega) ?_
      refine AW_iload_n dX4_ofKind_18 rfl ?_
      refine AW_icmp_ne 25 dX4_ofKind_19 (by decide) (by omega) (by omega) (fun h19 => ?_) (fun h19 => ?_)
      · refine AW_iinc (lv' := [_, _, _, _]) dX4_ofKind_25 rfl (by decide) rfl ?_
        refine AW_goto (tgt := 4) dX4_ofKind_28 (by decide) ?_
        have e : kindN X kd (i + 1) = kindN X kd i + _ := rfl
        first
        | rw [if_pos (by omega)] at e
        | rw [if_neg (by omega), Int.add_zero] at e
        rw [← e]
        exact ih (by omega)
      · refine AW_iinc (lv' := [_, _, _, _]) dX4_ofKind_22 rfl (by decide) rfl ?_
        refine AW_iinc (lv' := [_, _, _, _]) dX4_ofKind_25 rfl (by decide) rfl ?_
        refine AW_goto (tgt := 4) dX4_ofKind_28 (by decide) ?_
        have e : kindN X kd (i + 1) = kindN X kd i + _ := rfl
        first
        | rw [if_pos (by omega)] at e
        | rw [if_neg (by omega), Int.add_zero] at e
        rw [← e]
        exact ih (by omega))
theorem c_ofKind {σ : am_S} {X : Row} (hT : WT X) (hTO : TO σ X) {kd : Int} (hkd : -2147483648 ≤ kd ∧ kd < 2147483648) : Runs am_tab mX4_ofKind [vR 7, vI kd] σ (QI (fun z σ' => z = kindN X kd (X 6423).toNat ∧ σ' = σ)) := by
  refine Runs.of (by decide) rfl (by simp) (Nat.le_of_ble_eq_true rfl) ?_
  show AW am_tab mX4_ofKind 0 [some (vR 7), some (vI kd), none, none] [] σ _
  refine AW_iconst dX4_ofKind_0 ?_
  refine AW_istore_n (i := 2) (lv' := [_, _, _, _]) dX4_ofKind_1 rfl (by decide) (Nat.le_of_ble_eq_true rfl) rfl ?_
  refine AW_iconst dX4_ofKind_2 ?_
  refine AW_istore_n (i := 3) (lv' := [_, _, _, _]) dX4_ofKind_3 rfl (by decide) (Nat.le_of_ble_eq_true rfl) rfl ?_
  exact l_ofKind hT hTO hkd 0 (by omega)
set_option maxHeartbeats 1000000 in
theorem l_nearest {σ : am_S} {X : Row} (hS : WS X) (hT : WT X) (hTO : TO σ X) (hG : GO σ X) (hSN : SN σ X) (hN : WN X) {tick : Nat} {lane place kind : Int} (htick : tick ≤ 300) (hl : 0 ≤ lane ∧ lane ≤ 3) (hp0 : 0 ≤ place ∧ place ≤ 60) (hkd : 0 ≤ kind ∧ kind ≤ 2) : ∀ i : Nat, i ≤ (X 6423).toNat → ∀ b : Int, ((0 ≤ b ∧ b = (nearN X tick lane place kind i).1) ∨ (b = -1 ∧ (nearN X tick lane place kind i).1 = -6)) → ∀ x : Option am_V, AW am_tab mX3_nearest 14 [some (vR 2), some (vI (tick : Nat)), some (vI lane), some (vI place), some (vI kind), some (vI b), some (vI (nearN X tick lane place kind i).2), some (vI i), x] [] σ (QI (fun z σ' => (((0 ≤ z ∧ z = (nearN X tick lane place kind (X 6423).toNat).1) ∨ (z = -1 ∧ (nearN X tick lane place kind (X 6423).toNat).1 = -6)) ∧ σ' = σ))) :=
  up_loop (fun i hi ih b hb1 x => by
    have hM := hT.1
    have hc := hTO.1
    have hb := nearN_b hN (tick := tick) (lane := lane) (place := place) (kind := kind) i
    refine AW_iload dX3_nearest_14 rfl ?_
    refine AW_aload_n dX3_nearest_16 rfl ?_
    refine AW_get dX3_nearest_17 fX3_21 rfl rfl ?_
    refine AW_get dX3_nearest_20 fX3_59 rfl rfl ?_
    refine AW_icmp_ge 106 dX3_nearest_23 (by decide) (by omega) (by omega) (fun h23 => ?_) (fun h23 => ?_)
    · refine AW_iload dX3_nearest_106 rfl ?_
      refine AW_iret dX3_nearest_108 rfl ?_
      have e : i = (X 6423).toNat := by omega
      subst e
      exact ⟨_, rfl, hb1, rfl⟩
    · have hi2 : (i : Int) < X 6423 := by omega
      have hk2 := hT.2 i hi2
      have hk3 := hTO.2 i hi2
      have hp := plc_b hS hT (k := i) (t := tick) hi2 htick
      refine AW_aload_n dX3_nearest_26 rfl ?_
      refine AW_get dX3_nearest_27 fX3_21 rfl rfl ?_
      refine AW_get dX3_nearest_30 fX3_62 rfl rfl ?_
      refine AW_iload dX3_nearest_33 rfl ?_
      refine AW_ialdN (j := i) dX3_nearest_35 rfl (Nat.le_of_ble_eq_true rfl) (by omega) (by omega) ?_
      refine AW_iload_n dX3_nearest_36 rfl ?_
      refine AW_icmp_ne 100 dX3_nearest_37 (by decide) (by omega) (by omega) (fun h37 => ?_) (fun h37 => ?_)
      · refine AW_iinc (lv' := [_, _, _, _, _, _, _, _, _]) dX3_nearest_100 rfl (by decide) rfl ?_
        refine AW_goto (tgt := 14) dX3_nearest_103 (by decide) ?_
        have e : nearN X tick lane place kind (i + 1) = nearN X tick lane place kind i := by
          simp only [nearN]
          rw [if_neg (by omega)]
        have h9 := ih (by omega) b (by rw [e]; exact hb1) x
        rw [e] at h9
        exact h9
      · refine AW_aload_n dX3_nearest_40 rfl ?_
        refine AW_get dX3_nearest_41 fX3_21 rfl rfl ?_
        refine AW_get dX3_nearest_44 fX3_65 rfl rfl ?_
        refine AW_iload dX3_nearest_47 rfl ?_
        refine AW_ialdN (j := i) dX3_nearest_49 rfl (Nat.le_of_ble_eq_true rfl) (by omega) (by omega) ?_
        refine AW_iload dX3_nearest_50 rfl ?_
        refine AW_icmp_ne 100 dX3_nearest_52 (by decide) (by omega) (by omega) (fun h52 => ?_) (fun h52 => ?_)
        · refine AW_iinc (lv' := [_, _, _, _, _, _, _, _, _]) dX3_nearest_100 rfl (by decide) rfl ?_
          refine AW_goto (tgt := 14) dX3_nearest_103 (by decide) ?_
          have e : nearN X tick lane place kind (i + 1) = nearN X tick lane place kind i := by
            simp only [nearN]
            rw [if_neg (by omega)]
          have h9 := ih (by omega) b (by rw [e]; exact hb1) x
          rw [e] at h9
          exact h9
        · refine AW_aload_n dX3_nearest_55 rfl ?_
          refine AW_get dX3_nearest_56 fX3_21 rfl rfl ?_
          refine AW_iload dX3_nearest_59 rfl ?_
          refine AW_iload_n dX3_nearest_61 rfl ?_
          refine AW_cVI2 dX3_nearest_62 kX3_68 (am_fit_b rfl) rfl rfl (Nat.le_of_ble_eq_true rfl) (c_wasSeen hT hSN (by omega) htick) (fun z σ' hq => ?_)
          obtain ⟨rfl, ⟨rfl, h62⟩ | ⟨rfl, h62⟩⟩ := hq
          · refine AW_if_eq 71 dX3_nearest_65 (by decide) (by decide) (fun h => absurd h (by decide)) (fun _ => ?_)
            refine AW_goto (tgt := 100) dX3_nearest_68 (by decide) ?_
            refine AW_iinc (lv' := [_, _, _, _, _, _, _, _, _]) dX3_nearest_100 rfl (by decide) rfl ?_
            refine AW_goto (tgt := 14) dX3_nearest_103 (by decide) ?_
            have e : nearN X tick lane place kind (i + 1) = nearN X tick lane place kind i := by
              simp only [nearN]
              rw [if_neg (by omega)]
            have h9 := ih (by omega) b (by rw [e]; exact hb1) x
            rw [e] at h9
            exact h9
          · refine AW_if_eq 71 dX3_nearest_65 (by decide) (by decide) (fun _ => ?_) (fun h => absurd (by decide) h)
            refine AW_aload_n dX3_nearest_71 rfl ?_
            refine AW_iload dX3_nearest_72 rfl ?_
            refine AW_iload_n dX3_nearest_74 rfl ?_
            refine AW_cVI2 dX3_nearest_75 kX3_72 (am_fit_b rfl) rfl rfl (Nat.le_of_ble_eq_true rfl) (c_placeAt hS hT hTO hG (by omega) htick) (fun z σ' hq => ?_)
            obtain ⟨hz, hs⟩ := hq
            replace hz := hz.symm
            subst hz
            replace hs := hs.symm
            subst hs
            refine AW_iload_n dX3_nearest_78 rfl ?_
            refine AW_isub dX3_nearest_79 ?_
            refine AW_cSI1 dX3_nearest_80 kX3_76 (am_fit_b rfl) (Nat.le_of_ble_eq_true rfl) (c_abs (by omega)) (fun z σ' hq => ?_)
            obtain ⟨hz, hs⟩ := hq
            replace hz := hz.symm
            subst hz
            replace hs := hs.symm
            subst hs
            refine AW_istore (lv' := [_, _, _, _, _, _, _, _, _]) dX3_nearest_83 (by decide) (Nat.le_of_ble_eq_true rfl) rfl ?_
            refine AW_iload dX3_nearest_85 rfl ?_
            refine AW_iload dX3_nearest_87 rfl ?_
            refine AW_icmp_ge 100 dX3_nearest_89 (by decide) (by omega) (by omega) (fun h89 => ?_) (fun h89 => ?_)
            · refine AW_iinc (lv' := [_, _, _, _, _, _, _, _, _]) dX3_nearest_100 rfl (by decide) rfl ?_
              refine AW_goto (tgt := 14) dX3_nearest_103 (by decide) ?_
              have e : nearN X tick lane place kind (i + 1) = nearN X tick lane place kind i := by
                simp only [nearN]
                rw [if_neg (by omega)]
              have h9 := ih (by omega) b (by rw [e]; exact hb1) (some (vI ((plc X i tick - place).natAbs : Int)))
              rw [e] at h9
              exact h9
            · refine AW_iload dX3_nearest_92 rfl ?_
              refine AW_istore (lv' := [_, _, _, _, _, _, _, _, _]) dX3_nearest_94 (by decide) (Nat.le_of_ble_eq_true rfl) rfl ?_
              refine AW_iload dX3_nearest_96 rfl ?_
              refine AW_istore (lv' := [_, _, _, _, _, _, _, _, _]) dX3_nearest_98 (by decide) (Nat.le_of_ble_eq_true rfl) rfl ?_
              refine AW_iinc (lv' := [_, _, _, _, _, _, _, _, _]) dX3_nearest_100 rfl (by decide) rfl ?_
              refine AW_goto (tgt := 14) dX3_nearest_103 (by decide) ?_
              have e : nearN X tick lane place kind (i + 1) = ((i : Int), ((plc X i tick - place).natAbs : Int)) := by
                simp only [nearN]
                rw [if_pos (by omega)]
              have h9 := ih (by omega) (i : Int) (by rw [e]; dsimp only; omega) (some (vI ((plc X i tick - place).natAbs : Int)))
              rw [e] at h9
              exact h9)
theorem c_nearest {σ : am_S} {X : Row} (hS : WS X) (hT : WT X) (hTO : TO σ X) (hG : GO σ X) (hSN : SN σ X) (hN : WN X) {tick : Nat} {lane place kind : Int} (htick : tick ≤ 300) (hl : 0 ≤ lane ∧ lane ≤ 3) (hp0 : 0 ≤ place ∧ place ≤ 60) (hkd : 0 ≤ kind ∧ kind ≤ 2) (hnear : σ.1 2 3 = X 6421) : Runs am_tab mX3_nearest [vR 2, vI tick, vI lane, vI place, vI kind] σ (QI (fun z σ' => (((0 ≤ z ∧ z = (nearN X tick lane place kind (X 6423).toNat).1) ∨ (z = -1 ∧ (nearN X tick lane place kind (X 6423).toNat).1 = -6)) ∧ σ' = σ))) := by
  refine Runs.of (by decide) rfl (by simp) (Nat.le_of_ble_eq_true rfl) ?_
  show AW am_tab mX3_nearest 0 [some (vR 2), some (vI tick), some (vI lane), some (vI place), some (vI kind), none, none, none, none] [] σ _
  refine AW_iconst dX3_nearest_0 ?_
  refine AW_istore (lv' := [_, _, _, _, _, _, _, _, _]) dX3_nearest_1 (by decide) (Nat.le_of_ble_eq_true rfl) rfl ?_
  refine AW_aload_n dX3_nearest_3 rfl ?_
  refine AW_get dX3_nearest_4 fX3_32 rfl rfl ?_
  refine AW_iconst dX3_nearest_7 ?_
  refine AW_iadd dX3_nearest_8 ?_
  refine AW_istore (lv' := [_, _, _, _, _, _, _, _, _]) dX3_nearest_9 (by decide) (Nat.le_of_ble_eq_true rfl) rfl ?_
  rw [hnear]
  refine AW_iconst dX3_nearest_11 ?_
  refine AW_istore (lv' := [_, _, _, _, _, _, _, _, _]) dX3_nearest_12 (by decide) (Nat.le_of_ble_eq_true rfl) rfl ?_
  exact l_nearest hS hT hTO hG hSN hN htick hl hp0 hkd 0 (by omega) (-1) (Or.inr ⟨rfl, rfl⟩) none
