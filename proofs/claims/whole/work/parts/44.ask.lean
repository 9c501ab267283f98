theorem ConC.at {n k : Nat} {Tk So : Row} {f : Nat → Option Sl} (h : ConC n Tk So f) (hk : k < 20) : (f k = none ∧ So k = -1 ∧ pTick f k = -6 ∧ pArm f k = -6) ∨ ∃ s, f k = some s ∧ okS s ∧ So k = enc4 s ∧ pTick f k = s.1 ∧ pArm f k = s.2 := by
  unfold pTick pArm
  cases e : f k with
  | none => exact Or.inl ⟨rfl, h.1 k hk e, rfl, rfl⟩
  | some s => obtain ⟨_, b, d⟩ := h.2.1 k s e; exact Or.inr ⟨s, rfl, b, d, rfl, rfl⟩
theorem enc4_td {s : Sl} (h : okS s) : ((enc4 s : Nat) : Int).tdiv 4 = s.1 ∧ ((enc4 s : Nat) : Int).tmod 4 = s.2 := by
  have e := dec4_enc h
  unfold dec4 at e
  rw [td4, tm4]
  constructor
  · exact congrArg (fun z : Sl => ((z.1 : Nat) : Int)) e
  · exact congrArg (fun z : Sl => ((z.2 : Nat) : Int)) e
theorem pTA {f : Nat → Option Sl} {k t a : Nat} : (pTick f k = t ∧ pArm f k = a) ↔ f k = some (t, a) := by
  unfold pTick pArm
  cases e : f k with
  | none => constructor
            · intro h; have := h.1; dsimp only at this; omega
            · intro h; cases h
  | some s =>
    obtain ⟨u, b⟩ := s
    dsimp only
    constructor
    · intro h
      have h1 : u = t := by omega
      have h2 : b = a := by omega
      rw [h1, h2]
    · intro h; cases h; exact ⟨rfl, rfl⟩
theorem takesN_none {f : Nat → Option Sl} {t a : Nat} : ∀ n, (∀ j, j < n → f j ≠ some (t, a)) → takesN f a t n = -6 := by
  intro n
  induction n with
  | zero => intro _; rfl
  | succ n ih =>
    intro h
    simp only [takesN]
    rw [if_neg (fun z => h n (by omega) (pTA.mp z))]
    exact ih (fun j hj => h j (by omega))
theorem takesN_some {f : Nat → Option Sl} {t a k : Nat} (hk : f k = some (t, a)) (hi : ∀ i j s, f i = some s → f j = some s → i = j) : ∀ n, k < n → takesN f a t n = k := by
  intro n
  induction n with
  | zero => intro h; omega
  | succ n ih =>
    intro h
    simp only [takesN]
    by_cases e : k = n
    · subst e
      rw [if_pos (pTA.mpr hk)]
    · rw [if_neg (fun z => e (hi k n _ hk (pTA.mp z)))]
      exact ih (by omega)
theorem bset_tb {p : Nat → Bool} {n i : Nat} : (bset p n).testBit i = (decide (i < n) && p i) := by
  by_cases h : i < n
  · rw [Nat.testBit_eq_decide_div_mod_eq, bset_bit n h]
    cases p i <;> simp [h]
  · rw [Nat.testBit_lt_two_pow (Nat.lt_of_lt_of_le (bset_lt p n) (Nat.pow_le_pow_right (by decide) (by omega)))]
    simp [h]
theorem i32_shl21 : ∀ k : Fin 21, Int32.ofInt 1 <<< (Int32.ofInt (k.val : Int) &&& 31) = Int32.ofInt ((2 ^ k.val : Nat) : Int) := by decide
theorem i32_need {p : Nat → Bool} {n : Nat} (hn : n ≤ 20) : Int32.ofInt (((2 ^ n : Nat) : Int) - 1) &&& Int32.ofInt (Int32.ofInt ((bset p 20 : Nat) : Int) ^^^ Int32.ofInt (-1)).toInt = Int32.ofInt ((bset (fun k => !p k) n : Nat) : Int) := by
  have e0 : ((2 ^ n : Nat) : Int) - 1 = ((2 ^ n - 1 : Nat) : Int) := by
    have : 0 < 2 ^ n := Nat.pow_pos (by decide)
    omega
  rw [Int32.ofInt_toInt, e0, i32_ofNat, i32_ofNat, i32_ofNat]
  apply Int32.toBitVec.inj
  apply BitVec.eq_of_getLsbD_eq
  intro i hi
  show (BitVec.ofNat 32 (2 ^ n - 1) &&& (BitVec.ofNat 32 (bset p 20) ^^^ BitVec.allOnes 32)).getLsbD i = (BitVec.ofNat 32 (bset (fun k => !p k) n)).getLsbD i
  rw [BitVec.getLsbD_and, BitVec.getLsbD_xor, BitVec.getLsbD_allOnes, BitVec.getLsbD_ofNat, BitVec.getLsbD_ofNat, BitVec.getLsbD_ofNat, Nat.testBit_two_pow_sub_one, bset_tb, bset_tb]
  by_cases h : i < n
  · have h20 : i < 20 := by omega
    simp [h, hi, h20]
  · simp [h]
theorem c_tickOf {n q : Nat} {σ : am_S} {f : Nat → Option Sl} (hq : PT q) (hn : n ≤ 20) (hC : ConC n (σ.1 (q + 4)) (σ.1 (q + 3)) f) {k : Nat} (hk : k < 20) : Runs am_tab mX2_tickOf [vR q, vI k] σ (QI (fun z σ' => z = pTick f k ∧ σ' = σ)) := by
  refine Runs.of (by decide) rfl (by simp) (Nat.le_of_ble_eq_true rfl) ?_
  show AW am_tab mX2_tickOf 0 [some (vR q), some (vI k)] [] σ _
  have hat := hC.at hk
  have hsb := hC.sob hk
  refine AW_aload_n dX2_tickOf_0 rfl ?_
  refine AW_get dX2_tickOf_1 fX2_25 hq.1 rfl ?_
  refine AW_iload_n dX2_tickOf_4 rfl ?_
  refine AW_ialdN (j := k) dX2_tickOf_5 hq.2.2.2.1 (Nat.le_of_ble_eq_true rfl) (by omega) (by omega) ?_
  refine AW_if_ge 14 dX2_tickOf_6 (by decide) (by omega) (fun h6 => ?_) (fun h6 => ?_)
  · refine AW_aload_n dX2_tickOf_14 rfl ?_
    refine AW_get dX2_tickOf_15 fX2_25 hq.1 rfl ?_
    refine AW_iload_n dX2_tickOf_18 rfl ?_
    refine AW_ialdN (j := k) dX2_tickOf_19 hq.2.2.2.1 (Nat.le_of_ble_eq_true rfl) (by omega) (by omega) ?_
    refine AW_iconst dX2_tickOf_20 ?_
    refine AW_idiv dX2_tickOf_21 (by omega) (by omega) (by omega) ?_
    refine AW_iret dX2_tickOf_22 rfl ?_
    refine ⟨_, rfl, ?_, rfl⟩
    rcases hat with ⟨_, h1, h2, h3⟩ | ⟨s, _, h0, h1, h2, h3⟩
    · first
      | omega
      | (rw [h1] at h6; exact absurd h6 (by decide))
    · first
      | (rw [h1, h2]; exact (enc4_td h0).1)
      | omega
  · refine AW_bipush dX2_tickOf_9 (by decide) ?_
    refine AW_goto (tgt := 22) dX2_tickOf_11 (by decide) ?_
    refine AW_iret dX2_tickOf_22 rfl ?_
    refine ⟨_, rfl, ?_, rfl⟩
    rcases hat with ⟨_, h1, h2, h3⟩ | ⟨s, _, h0, h1, h2, h3⟩
    · first
      | omega
      | (rw [h1] at h6; exact absurd h6 (by decide))
    · first
      | (rw [h1, h2]; exact (enc4_td h0).1)
      | omega
theorem c_armOf {n q : Nat} {σ : am_S} {f : Nat → Option Sl} (hq : PT q) (hn : n ≤ 20) (hC : ConC n (σ.1 (q + 4)) (σ.1 (q + 3)) f) {k : Nat} (hk : k < 20) : Runs am_tab mX2_armOf [vR q, vI k] σ (QI (fun z σ' => z = pArm f k ∧ σ' = σ)) := by
  refine Runs.of (by decide) rfl (by simp) (Nat.le_of_ble_eq_true rfl) ?_
  show AW am_tab mX2_armOf 0 [some (vR q), some (vI k)] [] σ _
  have hat := hC.at hk
  have hsb := hC.sob hk
  refine AW_aload_n dX2_armOf_0 rfl ?_
  refine AW_get dX2_armOf_1 fX2_25 hq.1 rfl ?_
  refine AW_iload_n dX2_armOf_4 rfl ?_
  refine AW_ialdN (j := k) dX2_armOf_5 hq.2.2.2.1 (Nat.le_of_ble_eq_true rfl) (by omega) (by omega) ?_
  refine AW_if_ge 14 dX2_armOf_6 (by decide) (by omega) (fun h6 => ?_) (fun h6 => ?_)
  · refine AW_aload_n dX2_armOf_14 rfl ?_
    refine AW_get dX2_armOf_15 fX2_25 hq.1 rfl ?_
    refine AW_iload_n dX2_armOf_18 rfl ?_
    refine AW_ialdN (j := k) dX2_armOf_19 hq.2.2.2.1 (Nat.le_of_ble_eq_true rfl) (by omega) (by omega) ?_
    refine AW_iconst dX2_armOf_20 ?_
    refine AW_irem dX2_armOf_21 (by omega) (by omega) (by omega) ?_
    refine AW_iret dX2_armOf_22 rfl ?_
    refine ⟨_, rfl, ?_, rfl⟩
    rcases hat with ⟨_, h1, h2, h3⟩ | ⟨s, _, h0, h1, h2, h3⟩
    · first
      | omega
      | (rw [h1] at h6; exact absurd h6 (by decide))
    · first
      | (rw [h1, h3]; exact (enc4_td h0).2)
      | omega
  · refine AW_bipush dX2_armOf_9 (by decide) ?_
    refine AW_goto (tgt := 22) dX2_armOf_11 (by decide) ?_
    refine AW_iret dX2_armOf_22 rfl ?_
    refine ⟨_, rfl, ?_, rfl⟩
    rcases hat with ⟨_, h1, h2, h3⟩ | ⟨s, _, h0, h1, h2, h3⟩
    · first
      | omega
      | (rw [h1] at h6; exact absurd h6 (by decide))
    · first
      | (rw [h1, h3]; exact (enc4_td h0).2)
      | omega
theorem c_takenAt {n q : Nat} {σ : am_S} {f : Nat → Option Sl} (hq : PT q) (hn : n ≤ 20) (hC : ConC n (σ.1 (q + 4)) (σ.1 (q + 3)) f) (hi : ∀ i j s, f i = some s → f j = some s → i = j) {a t : Nat} (ha : a < 4) (ht : t ≤ 300) : Runs am_tab mX2_takenAt [vR q, vI a, vI t] σ (QI (fun z σ' => (if z < 0 then -6 else z) = takesN f a t n ∧ σ' = σ ∧ -1 ≤ z ∧ z < 20)) := by
  refine Runs.of (by decide) rfl (by simp) (Nat.le_of_ble_eq_true rfl) ?_
  show AW am_tab mX2_takenAt 0 [some (vR q), some (vI a), some (vI t)] [] σ _
  refine AW_aload_n dX2_takenAt_0 rfl ?_
  refine AW_get dX2_takenAt_1 fX2_28 hq.1 rfl ?_
  refine AW_iload_n dX2_takenAt_4 rfl ?_
  refine AW_iconst dX2_takenAt_5 ?_
  refine AW_imul dX2_takenAt_6 ?_
  refine AW_iload_n dX2_takenAt_7 rfl ?_
  refine AW_iadd dX2_takenAt_8 ?_
  refine AW_ialdN (j := 4 * t + a) dX2_takenAt_9 hq.2.2.2.2.1 (Nat.le_of_ble_eq_true rfl) (by omega) (by omega) ?_
  refine AW_iret dX2_takenAt_10 rfl ?_
  have hzb : -1 ≤ σ.1 (q + 4) (4 * t + a) ∧ σ.1 (q + 4) (4 * t + a) < 20 := by
    rcases hC.2.2.2 (4 * t + a) (by omega) with h | ⟨k, h1, h2, h3⟩ <;> omega
  refine ⟨_, rfl, ?_, rfl, hzb⟩
  have e1 : 4 * t + a = enc4 (t, a) := rfl
  have e2 : dec4 (4 * t + a) = (t, a) := by rw [e1]; exact dec4_enc ⟨ht, ha⟩
  have hi2 := hi
  rcases hC.2.2.2 (4 * t + a) (by omega) with h | ⟨k, h1, h2, h3⟩
  · rw [h, if_pos (by decide)]
    refine (takesN_none n (fun j hj hf => ?_)).symm
    have := hC.2.2.1 j (t, a) hf
    rw [← e1] at this
    omega
  · rw [h2, if_neg (by omega)]
    rw [e2] at h3
    exact (takesN_some h3 hi n h1).symm
theorem l_takenBy {n q : Nat} {σ : am_S} {f : Nat → Option Sl} (hq : PT q) (hn : n ≤ 20) (hC : ConC n (σ.1 (q + 4)) (σ.1 (q + 3)) f) (hcount : σ.1 q 0 = (n : Nat)) {arm : Int} (harm : -2147483648 ≤ arm ∧ arm < 2147483648) : ∀ i : Nat, i ≤ n → AW am_tab mX2_takenBy 4 [some (vR q), some (vI arm), some (vI (byN f arm i)), some (vI (i : Nat))] [] σ (QI (fun z σ' => z = byN f arm n ∧ σ' = σ)) :=
  up_loop (fun i hi ih => by
    have hbn := byN_b (pl := f) (arm := arm) i
    have hat := fun h : i < 20 => hC.at h
    refine AW_iload_n dX2_takenBy_4 rfl ?_
    refine AW_aload_n dX2_takenBy_5 rfl ?_
    refine AW_get dX2_takenBy_6 fX2_9 hq.1 rfl ?_
    rw [hcount]
    refine AW_icmp_ge 30 dX2_takenBy_9 (by decide) (by omega) (by omega) (fun h9 => ?_) (fun h9 => ?_)
    · refine AW_iload_n dX2_takenBy_30 rfl ?_
      refine AW_iret dX2_takenBy_31 rfl ?_
      have e : i = n := by omega
      subst e
      exact ⟨_, rfl, rfl, rfl⟩
    · refine AW_aload_n dX2_takenBy_12 rfl ?_
      refine AW_iload_n dX2_takenBy_13 rfl ?_
      refine AW_cVI1 dX2_takenBy_14 kX2_116 (am_fit_b rfl) hq.1 rfl (Nat.le_of_ble_eq_true rfl) (c_armOf hq hn hC (by omega)) (fun z σ' hq2 => ?_)
      obtain ⟨hz, hs⟩ := hq2
      replace hz := hz.symm
      subst hz
      replace hs := hs.symm
      subst hs
      have hpb : -6 ≤ pArm f i ∧ pArm f i ≤ 3 := by
        rcases hat (by omega) with ⟨_, h1, h2, h3⟩ | ⟨s, _, h0, h1, h2, h3⟩
        · omega
        · have := h0.2; omega
      refine AW_iload_n dX2_takenBy_17 rfl ?_
      refine AW_icmp_ne 24 dX2_takenBy_18 (by decide) (by omega) (by omega) (fun h18 => ?_) (fun h18 => ?_)
      · refine AW_iinc (lv' := [_, _, _, _]) dX2_takenBy_24 rfl (by decide) rfl ?_
        refine AW_goto (tgt := 4) dX2_takenBy_27 (by decide) ?_
        have e : byN f arm (i + 1) = byN f arm i + (if pArm f i = arm then 1 else 0) := rfl
        first
        | (rw [if_pos (by omega)] at e; have h9 := ih (by omega); rw [e] at h9; exact h9)
        | (rw [if_neg (by omega), Int.add_zero] at e; have h9 := ih (by omega); rw [e] at h9; exact h9)
      · refine AW_iinc (lv' := [_, _, _, _]) dX2_takenBy_21 rfl (by decide) rfl ?_
        refine AW_iinc (lv' := [_, _, _, _]) dX2_takenBy_24 rfl (by decide) rfl ?_
        refine AW_goto (tgt := 4) dX2_takenBy_27 (by decide) ?_
        have e : byN f arm (i + 1) = byN f arm i + (if pArm f i = arm then 1 else 0) := rfl
        first
        | (rw [if_pos (by omega)] at e; have h9 := ih (by omega); rw [e] at h9; exact h9)
        | (rw [if_neg (by omega), Int.add_zero] at e; have h9 := ih (by omega); rw [e] at h9; exact h9))
theorem c_takenBy {n q : Nat} {σ : am_S} {f : Nat → Option Sl} (hq : PT q) (hn : n ≤ 20) (hC : ConC n (σ.1 (q + 4)) (σ.1 (q + 3)) f) (hcount : σ.1 q 0 = (n : Nat)) {arm : Int} (harm : -2147483648 ≤ arm ∧ arm < 2147483648) : Runs am_tab mX2_takenBy [vR q, vI arm] σ (QI (fun z σ' => z = byN f arm n ∧ σ' = σ)) := by
  refine Runs.of (by decide) rfl (by simp) (Nat.le_of_ble_eq_true rfl) ?_
  show AW am_tab mX2_takenBy 0 [some (vR q), some (vI arm), none, none] [] σ _
  refine AW_iconst dX2_takenBy_0 ?_
  refine AW_istore_n (i := 2) (lv' := [_, _, _, _]) dX2_takenBy_1 rfl (by decide) (Nat.le_of_ble_eq_true rfl) rfl ?_
  refine AW_iconst dX2_takenBy_2 ?_
  refine AW_istore_n (i := 3) (lv' := [_, _, _, _]) dX2_takenBy_3 rfl (by decide) (Nat.le_of_ble_eq_true rfl) rfl ?_
  exact l_takenBy hq hn hC hcount harm 0 (Nat.zero_le _)
theorem l_lastTick {n q : Nat} {σ : am_S} {f : Nat → Option Sl} (hq : PT q) (hn : n ≤ 20) (hC : ConC n (σ.1 (q + 4)) (σ.1 (q + 3)) f) (hcount : σ.1 q 0 = (n : Nat)) : ∀ i : Nat, i ≤ n → (-6 ≤ lastN f i ∧ lastN f i ≤ 300) → AW am_tab mX2_lastTick 5 [some (vR q), some (vI (lastN f i)), some (vI (i : Nat))] [] σ (QI (fun z σ' => z = lastN f n ∧ σ' = σ)) :=
  up_loop (fun i hi ih hlb => by
    have hat := fun h : i < 20 => hC.at h
    refine AW_iload_n dX2_lastTick_5 rfl ?_
    refine AW_aload_n dX2_lastTick_6 rfl ?_
    refine AW_get dX2_lastTick_7 fX2_9 hq.1 rfl ?_
    rw [hcount]
    refine AW_icmp_ge 29 dX2_lastTick_10 (by decide) (by omega) (by omega) (fun h10 => ?_) (fun h10 => ?_)
    · refine AW_iload_n dX2_lastTick_29 rfl ?_
      refine AW_iret dX2_lastTick_30 rfl ?_
      have e : i = n := by omega
      subst e
      exact ⟨_, rfl, rfl, rfl⟩
    · refine AW_iload_n dX2_lastTick_13 rfl ?_
      refine AW_aload_n dX2_lastTick_14 rfl ?_
      refine AW_iload_n dX2_lastTick_15 rfl ?_
      refine AW_cVI1 dX2_lastTick_16 kX2_119 (am_fit_b rfl) hq.1 rfl (Nat.le_of_ble_eq_true rfl) (c_tickOf hq hn hC (by omega)) (fun z σ' hq2 => ?_)
      obtain ⟨hz, hs⟩ := hq2
      replace hz := hz.symm
      subst hz
      replace hs := hs.symm
      subst hs
      have hpb : -6 ≤ pTick f i ∧ pTick f i ≤ 300 := by
        rcases hat (by omega) with ⟨_, h1, h2, h3⟩ | ⟨s, _, h0, h1, h2, h3⟩
        · omega
        · have := h0.1; omega
      refine AW_cSI2 dX2_lastTick_19 kX2_122 (am_fit_b rfl) (Nat.le_of_ble_eq_true rfl) (c_max (by omega) (by omega)) (fun z σ' hq3 => ?_)
      obtain ⟨hz, hs⟩ := hq3
      replace hz := hz.symm
      subst hz
      replace hs := hs.symm
      subst hs
      refine AW_istore_n (i := 1) (lv' := [_, _, _]) dX2_lastTick_22 rfl (by decide) (Nat.le_of_ble_eq_true rfl) rfl ?_
      refine AW_iinc (lv' := [_, _, _]) dX2_lastTick_23 rfl (by decide) rfl ?_
      refine AW_goto (tgt := 5) dX2_lastTick_26 (by decide) ?_
      have e : lastN f (i + 1) = max (lastN f i) (pTick f i) := by
        simp only [lastN]
        split <;> omega
      have h9 := ih (by omega) (by omega)
      rw [e] at h9
      exact h9)
theorem c_lastTick {n q : Nat} {σ : am_S} {f : Nat → Option Sl} (hq : PT q) (hn : n ≤ 20) (hC : ConC n (σ.1 (q + 4)) (σ.1 (q + 3)) f) (hcount : σ.1 q 0 = (n : Nat)) : Runs am_tab mX2_lastTick [vR q] σ (QI (fun z σ' => z = lastN f n ∧ σ' = σ)) := by
  refine Runs.of (by decide) rfl (by simp) (Nat.le_of_ble_eq_true rfl) ?_
  show AW am_tab mX2_lastTick 0 [some (vR q), none, none] [] σ _
  refine AW_bipush dX2_lastTick_0 (by decide) ?_
  refine AW_istore_n (i := 1) (lv' := [_, _, _]) dX2_lastTick_2 rfl (by decide) (Nat.le_of_ble_eq_true rfl) rfl ?_
  refine AW_iconst dX2_lastTick_3 ?_
  refine AW_istore_n (i := 2) (lv' := [_, _, _]) dX2_lastTick_4 rfl (by decide) (Nat.le_of_ble_eq_true rfl) rfl ?_
  exact l_lastTick hq hn hC hcount 0 (Nat.zero_le _) ⟨Int.le_refl (-6), show (-6 : Int) ≤ 300 by decide⟩
theorem l_missedSet {n q : Nat} {σ : am_S} {f : Nat → Option Sl} (hq : PT q) (hn : n ≤ 20) (hC : ConC n (σ.1 (q + 4)) (σ.1 (q + 3)) f) (hcount : σ.1 q 0 = (n : Nat)) : ∀ i : Nat, i ≤ n → AW am_tab mX2_missedSet 4 [some (vR q), some (vI (bset (missB f) i : Nat)), some (vI (i : Nat))] [] σ (QI (fun z σ' => z = (bset (missB f) n : Nat) ∧ σ' = σ)) :=
  up_loop (fun i hi ih => by
    have hat := fun h : i < 20 => hC.at h
    have hbs := bset_small (missB f) (k := i) (by omega)
    refine AW_iload_n dX2_missedSet_4 rfl ?_
    refine AW_aload_n dX2_missedSet_5 rfl ?_
    refine AW_get dX2_missedSet_6 fX2_9 hq.1 rfl ?_
    rw [hcount]
    refine AW_icmp_ge 33 dX2_missedSet_9 (by decide) (by omega) (by omega) (fun h9 => ?_) (fun h9 => ?_)
    · refine AW_iload_n dX2_missedSet_33 rfl ?_
      refine AW_iret dX2_missedSet_34 rfl ?_
      have e : i = n := by omega
      subst e
      exact ⟨_, rfl, rfl, rfl⟩
    · refine AW_aload_n dX2_missedSet_12 rfl ?_
      refine AW_get dX2_missedSet_13 fX2_25 hq.1 rfl ?_
      refine AW_iload_n dX2_missedSet_16 rfl ?_
      refine AW_ialdN (j := i) dX2_missedSet_17 hq.2.2.2.1 (Nat.le_of_ble_eq_true rfl) (by omega) (by omega) ?_
      have hsb := hC.sob (k := i) (by omega)
      have hmb : missB f i = true ↔ σ.1 (q + 3) i < 0 := by
        rw [missB_t]
        rcases hat (by omega) with ⟨_, h1, h2, h3⟩ | ⟨s, _, h0, h1, h2, h3⟩ <;> omega
      refine AW_if_ge 27 dX2_missedSet_18 (by decide) (by omega) (fun h18 => ?_) (fun h18 => ?_)
      · refine AW_iinc (lv' := [_, _, _]) dX2_missedSet_27 rfl (by decide) rfl ?_
        refine AW_goto (tgt := 4) dX2_missedSet_30 (by decide) ?_
        have e : bset (missB f) (i + 1) = bset (missB f) i + (if missB f i = true then 2 ^ i else 0) := rfl
        first
        | (rw [if_pos (hmb.mpr (by omega))] at e; have h9 := ih (by omega); rw [e] at h9; exact h9)
        | (rw [if_neg (fun z => by have := hmb.mp z; omega), Nat.add_zero] at e; have h9 := ih (by omega); rw [e] at h9; exact h9)
      · refine AW_iload_n dX2_missedSet_21 rfl ?_
        refine AW_iconst dX2_missedSet_22 ?_
        refine AW_iload_n dX2_missedSet_23 rfl ?_
        refine AW_ishl (z := ((2 ^ i : Nat) : Int)) dX2_missedSet_24 (i32_shl1 ⟨i, by omega⟩) ?_
        refine AW_ior (z := ((bset (missB f) i + 2 ^ i : Nat) : Int)) dX2_missedSet_25 (i32_or_pow (bset_lt _ _) (by omega)) ?_
        refine AW_istore_n (i := 1) (lv' := [_, _, _]) dX2_missedSet_26 rfl (by decide) (Nat.le_of_ble_eq_true rfl) rfl ?_
        refine AW_iinc (lv' := [_, _, _]) dX2_missedSet_27 rfl (by decide) rfl ?_
        refine AW_goto (tgt := 4) dX2_missedSet_30 (by decide) ?_
        have e : bset (missB f) (i + 1) = bset (missB f) i + (if missB f i = true then 2 ^ i else 0) := rfl
        first
        | (rw [if_pos (hmb.mpr (by omega))] at e; have h9 := ih (by omega); rw [e] at h9; exact h9)
        | (rw [if_neg (fun z => by have := hmb.mp z; omega), Nat.add_zero] at e; have h9 := ih (by omega); rw [e] at h9; exact h9))
theorem c_missedSet {n q : Nat} {σ : am_S} {f : Nat → Option Sl} (hq : PT q) (hn : n ≤ 20) (hC : ConC n (σ.1 (q + 4)) (σ.1 (q + 3)) f) (hcount : σ.1 q 0 = (n : Nat)) : Runs am_tab mX2_missedSet [vR q] σ (QI (fun z σ' => z = (bset (missB f) n : Nat) ∧ σ' = σ)) := by
  refine Runs.of (by decide) rfl (by simp) (Nat.le_of_ble_eq_true rfl) ?_
  show AW am_tab mX2_missedSet 0 [some (vR q), none, none] [] σ _
  refine AW_iconst dX2_missedSet_0 ?_
  refine AW_istore_n (i := 1) (lv' := [_, _, _]) dX2_missedSet_1 rfl (by decide) (Nat.le_of_ble_eq_true rfl) rfl ?_
  refine AW_iconst dX2_missedSet_2 ?_
  refine AW_istore_n (i := 2) (lv' := [_, _, _]) dX2_missedSet_3 rfl (by decide) (Nat.le_of_ble_eq_true rfl) rfl ?_
  exact l_missedSet hq hn hC hcount 0 (Nat.zero_le _)
theorem c_neededSet {n q : Nat} {σ : am_S} {p : Nat → Bool} (hq : PT q) (hn : n ≤ 20) (hcount : σ.1 q 0 = (n : Nat)) (hset : σ.1 q 10 = (bset p 20 : Nat)) : Runs am_tab mX2_neededSet [vR q] σ (QI (fun z σ' => z = (bset (fun k => !p k) n : Nat) ∧ σ' = σ)) := by
  refine Runs.of (by decide) rfl (by simp) (Nat.le_of_ble_eq_true rfl) ?_
  show AW am_tab mX2_neededSet 0 [some (vR q)] [] σ _
  refine AW_iconst dX2_neededSet_0 ?_
  refine AW_aload_n dX2_neededSet_1 rfl ?_
  refine AW_get dX2_neededSet_2 fX2_9 hq.1 rfl ?_
  rw [hcount]
  refine AW_ishl (z := ((2 ^ n : Nat) : Int)) dX2_neededSet_5 (i32_shl21 ⟨n, by omega⟩) ?_
  refine AW_iconst dX2_neededSet_6 ?_
  refine AW_isub dX2_neededSet_7 ?_
  refine AW_aload_n dX2_neededSet_8 rfl ?_
  refine AW_get dX2_neededSet_9 fX2_43 hq.1 rfl ?_
  refine AW_iconst dX2_neededSet_12 ?_
  rw [hset]
  refine AW_ixor (z := (Int32.ofInt ((bset p 20 : Nat) : Int) ^^^ Int32.ofInt (-1)).toInt) dX2_neededSet_13 (Int32.ofInt_toInt _).symm ?_
  refine AW_iand (z := ((bset (fun k => !p k) n : Nat) : Int)) dX2_neededSet_14 (i32_need hn) ?_
  refine AW_iret dX2_neededSet_15 rfl ?_
  exact ⟨_, rfl, rfl, rfl⟩
theorem l_nextTaken {n q : Nat} {σ : am_S} {f : Nat → Option Sl} (hq : PT q) (hn : n ≤ 20) (hC : ConC n (σ.1 (q + 4)) (σ.1 (q + 3)) f) (hcount : σ.1 q 0 = (n : Nat)) {c : Int} (hc : -1 ≤ c ∧ c < 1204) : ∀ i : Nat, i ≤ n → ∀ z : Int, ((z = -1 ∧ ∀ k, k < i → σ.1 (q + 3) k ≤ c) ∨ ∃ k : Nat, z = k ∧ k < i ∧ c < σ.1 (q + 3) k ∧ ∀ j, j < i → c < σ.1 (q + 3) j → σ.1 (q + 3) k ≤ σ.1 (q + 3) j) → AW am_tab mX2_nextTaken 4 [some (vR q), some (vI c), some (vI z), some (vI (i : Nat))] [] σ (QI (fun z σ' => ((z = -1 ∧ ∀ k, k < n → σ.1 (q + 3) k ≤ c) ∨ ∃ k : Nat, z = k ∧ k < n ∧ c < σ.1 (q + 3) k ∧ ∀ j, j < n → c < σ.1 (q + 3) j → σ.1 (q + 3) k ≤ σ.1 (q + 3) j) ∧ σ' = σ)) :=
  up_loop (fun i hi ih z hz => by
    have hzb : -1 ≤ z ∧ z < 20 := by
      rcases hz with ⟨rfl, _⟩ | ⟨k, rfl, h, _⟩ <;> omega
    refine AW_iload_n dX2_nextTaken_4 rfl ?_
    refine AW_aload_n dX2_nextTaken_5 rfl ?_
    refine AW_get dX2_nextTaken_6 fX2_9 hq.1 rfl ?_
    rw [hcount]
    refine AW_icmp_ge 50 dX2_nextTaken_9 (by decide) (by omega) (by omega) (fun h9 => ?_) (fun h9 => ?_)
    · refine AW_iload_n dX2_nextTaken_50 rfl ?_
      refine AW_iret dX2_nextTaken_51 rfl ?_
      have e : i = n := by omega
      subst e
      exact ⟨_, rfl, hz, rfl⟩
    · refine AW_aload_n dX2_nextTaken_12 rfl ?_
      refine AW_get dX2_nextTaken_13 fX2_25 hq.1 rfl ?_
      refine AW_iload_n dX2_nextTaken_16 rfl ?_
      refine AW_ialdN (j := i) dX2_nextTaken_17 hq.2.2.2.1 (Nat.le_of_ble_eq_true rfl) (by omega) (by omega) ?_
      have hsb := hC.sob (k := i) (by omega)
      refine AW_iload_n dX2_nextTaken_18 rfl ?_
      refine AW_icmp_le 44 dX2_nextTaken_19 (by decide) (by omega) (by omega) (fun h19 => ?_) (fun h19 => ?_)
      · refine AW_iinc (lv' := [_, _, _, _]) dX2_nextTaken_44 rfl (by decide) rfl ?_
        refine AW_goto (tgt := 4) dX2_nextTaken_47 (by decide) ?_
        refine ih (by omega) _ ?_
        rcases hz with ⟨h1, h2⟩ | ⟨k, h1, h2, h3, h4⟩
        · first
          | exact Or.inl ⟨h1, fun k hk => by
              by_cases e : k = i
              · subst e; omega
              · exact h2 k (by omega)⟩
          | exact Or.inr ⟨i, rfl, by omega, by omega, fun j hj hc => by
              by_cases e : j = i
              · subst e; exact Int.le_refl _
              · have := h2 j (by omega); omega⟩
          | (exfalso; omega)
        · first
          | subst h1
          | (have h1' : k = kz := by omega
             subst h1')
          first
          | exact Or.inr ⟨k, rfl, by omega, h3, fun j hj hc => by
              by_cases e : j = i
              · subst e; omega
              · exact h4 j (by omega) hc⟩
          | exact Or.inr ⟨i, rfl, by omega, by omega, fun j hj hc => by
              by_cases e : j = i
              · subst e; exact Int.le_refl _
              · have := h4 j (by omega) hc; omega⟩
          | (exfalso; omega)
      · refine AW_iload_n dX2_nextTaken_22 rfl ?_
        refine AW_iconst dX2_nextTaken_23 ?_
        refine AW_icmp_eq 42 dX2_nextTaken_24 (by decide) (by omega) (by omega) (fun h24 => ?_) (fun h24 => ?_)
        · refine AW_iload_n dX2_nextTaken_42 rfl ?_
          refine AW_istore_n (i := 2) (lv' := [_, _, _, _]) dX2_nextTaken_43 rfl (by decide) (Nat.le_of_ble_eq_true rfl) rfl ?_
          refine AW_iinc (lv' := [_, _, _, _]) dX2_nextTaken_44 rfl (by decide) rfl ?_
          refine AW_goto (tgt := 4) dX2_nextTaken_47 (by decide) ?_
          refine ih (by omega) _ ?_
          rcases hz with ⟨h1, h2⟩ | ⟨k, h1, h2, h3, h4⟩
          · first
            | exact Or.inl ⟨h1, fun k hk => by
                by_cases e : k = i
                · subst e; omega
                · exact h2 k (by omega)⟩
            | exact Or.inr ⟨i, rfl, by omega, by omega, fun j hj hc => by
                by_cases e : j = i
                · subst e; exact Int.le_refl _
                · have := h2 j (by omega); omega⟩
            | (exfalso; omega)
          · first
            | subst h1
            | (have h1' : k = kz := by omega
               subst h1')
            first
            | exact Or.inr ⟨k, rfl, by omega, h3, fun j hj hc => by
                by_cases e : j = i
                · subst e; omega
                · exact h4 j (by omega) hc⟩
            | exact Or.inr ⟨i, rfl, by omega, by omega, fun j hj hc => by
                by_cases e : j = i
                · subst e; exact Int.le_refl _
                · have := h4 j (by omega) hc; omega⟩
            | (exfalso; omega)
        · refine AW_aload_n dX2_nextTaken_27 rfl ?_
          refine AW_get dX2_nextTaken_28 fX2_25 hq.1 rfl ?_
          refine AW_iload_n dX2_nextTaken_31 rfl ?_
          refine AW_ialdN (j := i) dX2_nextTaken_32 hq.2.2.2.1 (Nat.le_of_ble_eq_true rfl) (by omega) (by omega) ?_
          refine AW_aload_n dX2_nextTaken_33 rfl ?_
          refine AW_get dX2_nextTaken_34 fX2_25 hq.1 rfl ?_
          refine AW_iload_n dX2_nextTaken_37 rfl ?_
          refine AW_ialdN (j := z.toNat) dX2_nextTaken_38 hq.2.2.2.1 (Nat.le_of_ble_eq_true rfl) (by omega) (by omega) ?_
          obtain ⟨kz, hkz, hkz20⟩ : ∃ kz : Nat, z = kz ∧ kz < 20 := ⟨z.toNat, by omega, by omega⟩
          subst hkz
          rw [Int.toNat_natCast]
          have hsb2 := hC.sob (k := kz) hkz20
          refine AW_icmp_ge 44 dX2_nextTaken_39 (by decide) (by omega) (by omega) (fun h39 => ?_) (fun h39 => ?_)
          · refine AW_iinc (lv' := [_, _, _, _]) dX2_nextTaken_44 rfl (by decide) rfl ?_
            refine AW_goto (tgt := 4) dX2_nextTaken_47 (by decide) ?_
            refine ih (by omega) _ ?_
            rcases hz with ⟨h1, h2⟩ | ⟨k, h1, h2, h3, h4⟩
            · first
              | exact Or.inl ⟨h1, fun k hk => by
                  by_cases e : k = i
                  · subst e; omega
                  · exact h2 k (by omega)⟩
              | exact Or.inr ⟨i, rfl, by omega, by omega, fun j hj hc => by
                  by_cases e : j = i
                  · subst e; exact Int.le_refl _
                  · have := h2 j (by omega); omega⟩
              | (exfalso; omega)
            · first
              | subst h1
              | (have h1' : k = kz := by omega
                 subst h1')
              first
              | exact Or.inr ⟨k, rfl, by omega, h3, fun j hj hc => by
                  by_cases e : j = i
                  · subst e; omega
                  · exact h4 j (by omega) hc⟩
              | exact Or.inr ⟨i, rfl, by omega, by omega, fun j hj hc => by
                  by_cases e : j = i
                  · subst e; exact Int.le_refl _
                  · have := h4 j (by omega) hc; omega⟩
              | (exfalso; omega)
          · refine AW_iload_n dX2_nextTaken_42 rfl ?_
            refine AW_istore_n (i := 2) (lv' := [_, _, _, _]) dX2_nextTaken_43 rfl (by decide) (Nat.le_of_ble_eq_true rfl) rfl ?_
            refine AW_iinc (lv' := [_, _, _, _]) dX2_nextTaken_44 rfl (by decide) rfl ?_
            refine AW_goto (tgt := 4) dX2_nextTaken_47 (by decide) ?_
            refine ih (by omega) _ ?_
            rcases hz with ⟨h1, h2⟩ | ⟨k, h1, h2, h3, h4⟩
            · first
              | exact Or.inl ⟨h1, fun k hk => by
                  by_cases e : k = i
                  · subst e; omega
                  · exact h2 k (by omega)⟩
              | exact Or.inr ⟨i, rfl, by omega, by omega, fun j hj hc => by
                  by_cases e : j = i
                  · subst e; exact Int.le_refl _
                  · have := h2 j (by omega); omega⟩
              | (exfalso; omega)
            · first
              | subst h1
              | (have h1' : k = kz := by omega
                 subst h1')
              first
              | exact Or.inr ⟨k, rfl, by omega, h3, fun j hj hc => by
                  by_cases e : j = i
                  · subst e; omega
                  · exact h4 j (by omega) hc⟩
              | exact Or.inr ⟨i, rfl, by omega, by omega, fun j hj hc => by
                  by_cases e : j = i
                  · subst e; exact Int.le_refl _
                  · have := h4 j (by omega) hc; omega⟩
              | (exfalso; omega))
theorem c_nextTaken {n q : Nat} {σ : am_S} {f : Nat → Option Sl} (hq : PT q) (hn : n ≤ 20) (hC : ConC n (σ.1 (q + 4)) (σ.1 (q + 3)) f) (hcount : σ.1 q 0 = (n : Nat)) {c : Int} (hc : -1 ≤ c ∧ c < 1204) : Runs am_tab mX2_nextTaken [vR q, vI c] σ (QI (fun z σ' => ((z = -1 ∧ ∀ k, k < n → σ.1 (q + 3) k ≤ c) ∨ ∃ k : Nat, z = k ∧ k < n ∧ c < σ.1 (q + 3) k ∧ ∀ j, j < n → c < σ.1 (q + 3) j → σ.1 (q + 3) k ≤ σ.1 (q + 3) j) ∧ σ' = σ)) := by
  refine Runs.of (by decide) rfl (by simp) (Nat.le_of_ble_eq_true rfl) ?_
  show AW am_tab mX2_nextTaken 0 [some (vR q), some (vI c), none, none] [] σ _
  refine AW_iconst dX2_nextTaken_0 ?_
  refine AW_istore_n (i := 2) (lv' := [_, _, _, _]) dX2_nextTaken_1 rfl (by decide) (Nat.le_of_ble_eq_true rfl) rfl ?_
  refine AW_iconst dX2_nextTaken_2 ?_
  refine AW_istore_n (i := 3) (lv' := [_, _, _, _]) dX2_nextTaken_3 rfl (by decide) (Nat.le_of_ble_eq_true rfl) rfl ?_
  exact l_nextTaken hq hn hC hcount hc 0 (Nat.zero_le _) _ (Or.inl ⟨rfl, fun k hk => absurd hk (Nat.not_lt_zero _)⟩)
