theorem i32_shl1 : ∀ k : Fin 20, Int32.ofInt 1 <<< (Int32.ofInt (k.val : Int) &&& 31) = Int32.ofInt ((2 ^ k.val : Nat) : Int) := by decide
theorem i32_ofNat {n : Nat} : Int32.ofInt (n : Int) = Int32.ofNat n := Int32.ofInt_eq_ofNat
theorem nat_or_pow {x k : Nat} (hx : x < 2 ^ k) : x ||| 2 ^ k = x + 2 ^ k := by
  have h := Nat.two_pow_add_eq_or_of_lt hx 1
  rw [Nat.mul_one] at h
  rw [Nat.or_comm, ← h, Nat.add_comm]
theorem i32_or_pow {x k : Nat} (hx : x < 2 ^ k) (hk : k < 20) : Int32.ofInt (x : Int) ||| Int32.ofInt ((2 ^ k : Nat) : Int) = Int32.ofInt ((x + 2 ^ k : Nat) : Int) := by
  rw [i32_ofNat, i32_ofNat, i32_ofNat, ← nat_or_pow hx]
  apply Int32.toBitVec.inj
  apply BitVec.eq_of_toNat_eq
  have h2 : 2 ^ k < 2 ^ 20 := Nat.pow_lt_pow_right (by decide) hk
  have h3 : x ||| 2 ^ k < 2 ^ 32 := by rw [nat_or_pow hx]; omega
  show (BitVec.ofNat 32 x ||| BitVec.ofNat 32 (2 ^ k)).toNat = (BitVec.ofNat 32 (x ||| 2 ^ k)).toNat
  rw [BitVec.toNat_or, BitVec.toNat_ofNat, BitVec.toNat_ofNat, BitVec.toNat_ofNat, Nat.mod_eq_of_lt (by omega), Nat.mod_eq_of_lt (by omega), Nat.mod_eq_of_lt h3]
theorem i32_or_0 {x : Nat} : Int32.ofInt (x : Int) ||| Int32.ofInt 0 = Int32.ofInt (x : Int) := by
  rw [← i32_zero]
  exact Int32.or_zero
/-- a set as a number -/
def bset (p : Nat → Bool) : Nat → Nat
  | 0 => 0
  | k + 1 => bset p k + (if p k = true then 2 ^ k else 0)
theorem bset_lt (p : Nat → Bool) : ∀ k, bset p k < 2 ^ k := by
  intro k
  induction k with
  | zero => exact Nat.zero_lt_one
  | succ k ih => simp only [bset, Nat.pow_succ]; split <;> omega
theorem bset_small (p : Nat → Bool) {k : Nat} (hk : k ≤ 20) : bset p k < 1048576 := Nat.lt_of_lt_of_le (bset_lt p k) (Nat.pow_le_pow_right (by decide) hk)
def pTick (pl : Nat → Option Sl) (k : Nat) : Int := match pl k with
  | none => -6
  | some s => s.1
def pArm (pl : Nat → Option Sl) (k : Nat) : Int := match pl k with
  | none => -6
  | some s => s.2
theorem wbR_at {W B : Row} {k : Nat} {pl : Nat → Option Sl} (h : wbR W B k (pl k)) : W k = pTick pl k ∧ B k = pArm pl k := by
  unfold pTick pArm
  cases hp : pl k with
  | none => rw [hp] at h; exact h
  | some s => rw [hp] at h; exact h
theorem PlanSpec.b {X : Row} {w : Int} {n : Nat} {pl : Nat → Option Sl} (h : PlanSpec (gA X w) n pl) {k : Nat} (hk : k < n) : (pTick pl k = -6 ∧ pArm pl k = -6) ∨ ((0 ≤ pTick pl k ∧ pTick pl k ≤ 300) ∧ 0 ≤ pArm pl k ∧ pArm pl k ≤ 3) := by
  unfold pTick pArm
  cases hp : pl k with
  | none => exact Or.inl ⟨rfl, rfl⟩
  | some s =>
    have := ((h k hk).1 s hp).1.1
    exact Or.inr ⟨⟨by dsimp only; omega, by have := this.1; dsimp only; omega⟩, by dsimp only; omega, by have := this.2; dsimp only; omega⟩
theorem PlanSpec.inj {A : Nat → Sl → Prop} {n : Nat} {pl : Nat → Option Sl} (h : PlanSpec A n pl) {i j : Nat} {s : Sl} (hi : i < n) (hj : j < n) (h1 : pl i = some s) (h2 : pl j = some s) : i = j := by
  rcases Nat.lt_trichotomy i j with c | c | c
  · exact absurd ⟨i, c, h1⟩ ((h j hj).1 s h2).2.1
  · exact c
  · exact absurd ⟨j, c, h2⟩ ((h i hi).1 s h1).2.1
def byN (pl : Nat → Option Sl) (arm : Int) : Nat → Int
  | 0 => 0
  | k + 1 => byN pl arm k + (if pArm pl k = arm then 1 else 0)
theorem byN_b {pl : Nat → Option Sl} {arm : Int} : ∀ k, 0 ≤ byN pl arm k ∧ byN pl arm k ≤ k := by
  intro k
  induction k with
  | zero => simp [byN]
  | succ k ih => simp only [byN]; split <;> omega
def takesN (pl : Nat → Option Sl) (arm tick : Int) : Nat → Int
  | 0 => -6
  | k + 1 => if pTick pl k = tick ∧ pArm pl k = arm then (k : Int) else takesN pl arm tick k
theorem takesN_b {pl : Nat → Option Sl} {arm tick : Int} : ∀ k, -6 ≤ takesN pl arm tick k ∧ (takesN pl arm tick k < k ∨ takesN pl arm tick k = -6) := by
  intro k
  induction k with
  | zero => simp [takesN]
  | succ k ih => simp only [takesN]; split <;> omega
def lastN (pl : Nat → Option Sl) : Nat → Int
  | 0 => -6
  | k + 1 => if lastN pl k < pTick pl k then pTick pl k else lastN pl k
def missB (pl : Nat → Option Sl) (k : Nat) : Bool := (pl k).isNone
theorem missB_t {pl : Nat → Option Sl} {k : Nat} : missB pl k = true ↔ pTick pl k < 0 := by
  unfold missB pTick
  cases pl k with
  | none => simp
  | some s => simp only [Option.isNone_some, Bool.false_eq_true, false_iff]; omega
theorem l_takenBy7 {X : Row} {n : Nat} {pl : Nat → Option Sl} {σ : am_S} (hP : PlanSpec (gA X (-6)) n pl) (hR : ∀ k, k < n → wbR (σ.1 82) (σ.1 83) k (pl k)) (hmany : σ.1 71 6423 = (n : Nat)) (hn : n ≤ 20) {arm : Int} (harm : -2147483648 ≤ arm ∧ arm < 2147483648) {Q : Option am_V → am_S → Prop} (hQ : Q (some (vI (byN pl arm n))) σ) : ∀ i : Nat, i ≤ n → AW am_tab mX7_takenBy 8 [some (vR 70), some (vI arm), some (vI (byN pl arm i)), some (vI i)] [] σ Q :=
  up_loop (fun i hi ih => by
    have hbn := byN_b (pl := pl) (arm := arm) i
    refine AW_iload_n dX7_takenBy_8 rfl ?_
    refine AW_aload_n dX7_takenBy_9 rfl ?_
    refine AW_get dX7_takenBy_10 fX7_7 rfl rfl ?_
    refine AW_sipush dX7_takenBy_13 (by decide) ?_
    refine AW_ialdN (j := 6423) dX7_takenBy_16 rfl (Nat.le_of_ble_eq_true rfl) (by omega) (by omega) ?_
    rw [hmany]
    refine AW_icmp_ge 44 dX7_takenBy_17 (by decide) (by omega) (by omega) (fun h17 => ?_) (fun h17 => ?_)
    · refine AW_iload_n dX7_takenBy_44 rfl ?_
      refine AW_iret dX7_takenBy_45 rfl ?_
      have e : i = n := by omega
      subst e
      exact hQ
    · refine AW_iload_n dX7_takenBy_20 rfl ?_
      refine AW_aload_n dX7_takenBy_21 rfl ?_
      refine AW_get dX7_takenBy_22 fX7_47 rfl rfl ?_
      refine AW_iload_n dX7_takenBy_25 rfl ?_
      refine AW_ialdN (j := i) dX7_takenBy_26 rfl (Nat.le_of_ble_eq_true rfl) (by omega) (by omega) ?_
      have hb := hP.b (k := i) (by omega)
      have hri := wbR_at (hR i (by omega))
      rw [hri.2]
      refine AW_iload_n dX7_takenBy_27 rfl ?_
      refine AW_icmp_ne 35 dX7_takenBy_28 (by decide) (by omega) (by omega) (fun h28 => ?_) (fun h28 => ?_)
      · refine AW_iconst dX7_takenBy_35 ?_
        refine AW_iadd dX7_takenBy_36 ?_
        refine AW_istore_n (i := 2) (lv' := [_, _, _, _]) dX7_takenBy_37 rfl (by decide) (Nat.le_of_ble_eq_true rfl) rfl ?_
        refine AW_iinc (lv' := [_, _, _, _]) dX7_takenBy_38 rfl (by decide) rfl ?_
        refine AW_goto (tgt := 8) dX7_takenBy_41 (by decide) ?_
        have e : byN pl arm (i + 1) = byN pl arm i + (if pArm pl i = arm then 1 else 0) := rfl
        first
        | rw [if_pos (by omega)] at e
        | rw [if_neg (by omega)] at e
        rw [← e]
        exact ih (by omega)
      · refine AW_iconst dX7_takenBy_31 ?_
        refine AW_goto (tgt := 36) dX7_takenBy_32 (by decide) ?_
        refine AW_iadd dX7_takenBy_36 ?_
        refine AW_istore_n (i := 2) (lv' := [_, _, _, _]) dX7_takenBy_37 rfl (by decide) (Nat.le_of_ble_eq_true rfl) rfl ?_
        refine AW_iinc (lv' := [_, _, _, _]) dX7_takenBy_38 rfl (by decide) rfl ?_
        refine AW_goto (tgt := 8) dX7_takenBy_41 (by decide) ?_
        have e : byN pl arm (i + 1) = byN pl arm i + (if pArm pl i = arm then 1 else 0) := rfl
        first
        | rw [if_pos (by omega)] at e
        | rw [if_neg (by omega)] at e
        rw [← e]
        exact ih (by omega))
theorem c_takenBy7 {σ : am_S} (hS : WS (σ.1 71)) (hT : WT (σ.1 71)) (hA : WA (σ.1 71)) {n : Nat} (hmany : σ.1 71 6423 = (n : Nat)) {arm : Int} (harm : -2147483648 ≤ arm ∧ arm < 2147483648) : Runs am_tab mX7_takenBy [vR 70, vI arm] σ (QI (fun z σ' => Eqx [70, 74, 75, 76, 77, 78, 79, 80, 81, 82, 83] σ σ' ∧ ∃ pl, PlanIs (σ.1 71) n σ' pl ∧ z = byN pl arm n)) := by
  refine Runs.of (by decide) rfl (by simp) (Nat.le_of_ble_eq_true rfl) ?_
  show AW am_tab mX7_takenBy 0 [some (vR 70), some (vI arm), none, none] [] σ _
  refine AW_aload_n dX7_takenBy_0 rfl ?_
  refine AW_cVV0 dX7_takenBy_1 kX7_119 (am_fit_b rfl) rfl rfl (Nat.le_of_ble_eq_true rfl) (c_layPlan7 hS hT hA hmany) (fun σ' hq => ?_)
  obtain ⟨hE, pl, hPl⟩ := hq
  have hm2 : σ'.1 71 6423 = (n : Nat) := by rw [hE.1 71 (by decide)]; exact hmany
  have hn : n ≤ 20 := by have := hT.1; omega
  refine AW_iconst dX7_takenBy_4 ?_
  refine AW_istore_n (i := 2) (lv' := [_, _, _, _]) dX7_takenBy_5 rfl (by decide) (Nat.le_of_ble_eq_true rfl) rfl ?_
  refine AW_iconst dX7_takenBy_6 ?_
  refine AW_istore_n (i := 3) (lv' := [_, _, _, _]) dX7_takenBy_7 rfl (by decide) (Nat.le_of_ble_eq_true rfl) rfl ?_
  exact l_takenBy7 hPl.1 hPl.2.1 hm2 hn harm ⟨_, rfl, hE, pl, hPl, rfl⟩ 0 (by omega)
theorem l_takes7 {X : Row} {n : Nat} {pl : Nat → Option Sl} {σ : am_S} (hP : PlanSpec (gA X (-6)) n pl) (hR : ∀ k, k < n → wbR (σ.1 82) (σ.1 83) k (pl k)) (hmany : σ.1 71 6423 = (n : Nat)) (hn : n ≤ 20) {arm tick : Int} (harm : -2147483648 ≤ arm ∧ arm < 2147483648) (htick : -2147483648 ≤ tick ∧ tick < 2147483648) {Q : Option am_V → am_S → Prop} (hQ : Q (some (vI (takesN pl arm tick n))) σ) : ∀ i : Nat, i ≤ n → AW am_tab mX7_takes 29 [some (vR 70), some (vI arm), some (vI tick), some (vI (takesN pl arm tick i)), some (vI i)] [] σ Q :=
  up_loop (fun i hi ih => by
    have hbn := takesN_b (pl := pl) (arm := arm) (tick := tick) i
    refine AW_iload dX7_takes_29 rfl ?_
    refine AW_aload_n dX7_takes_31 rfl ?_
    refine AW_get dX7_takes_32 fX7_7 rfl rfl ?_
    refine AW_sipush dX7_takes_35 (by decide) ?_
    refine AW_ialdN (j := 6423) dX7_takes_38 rfl (Nat.le_of_ble_eq_true rfl) (by omega) (by omega) ?_
    rw [hmany]
    refine AW_icmp_ge 77 dX7_takes_39 (by decide) (by omega) (by omega) (fun h39 => ?_) (fun h39 => ?_)
    · refine AW_iload_n dX7_takes_77 rfl ?_
      refine AW_iret dX7_takes_78 rfl ?_
      have e : i = n := by omega
      subst e
      exact hQ
    · refine AW_aload_n dX7_takes_42 rfl ?_
      refine AW_get dX7_takes_43 fX7_44 rfl rfl ?_
      refine AW_iload dX7_takes_46 rfl ?_
      refine AW_ialdN (j := i) dX7_takes_48 rfl (Nat.le_of_ble_eq_true rfl) (by omega) (by omega) ?_
      have hb := hP.b (k := i) (by omega)
      have hri := wbR_at (hR i (by omega))
      rw [hri.1]
      refine AW_iload_n dX7_takes_49 rfl ?_
      refine AW_icmp_ne 69 dX7_takes_50 (by decide) (by omega) (by omega) (fun h50 => ?_) (fun h50 => ?_)
      · refine AW_iload_n dX7_takes_69 rfl ?_
        refine AW_istore_n (i := 3) (lv' := [_, _, _, _, _]) dX7_takes_70 rfl (by decide) (Nat.le_of_ble_eq_true rfl) rfl ?_
        refine AW_iinc (lv' := [_, _, _, _, _]) dX7_takes_71 rfl (by decide) rfl ?_
        refine AW_goto (tgt := 29) dX7_takes_74 (by decide) ?_
        have e : takesN pl arm tick (i + 1) = if pTick pl i = tick ∧ pArm pl i = arm then (i : Int) else takesN pl arm tick i := rfl
        have h9 := ih (by omega)
        first
        | (rw [if_pos (by omega)] at e; rw [e] at h9; exact h9)
        | (rw [if_neg (by omega)] at e; rw [e] at h9; exact h9)
      · refine AW_aload_n dX7_takes_53 rfl ?_
        refine AW_get dX7_takes_54 fX7_47 rfl rfl ?_
        refine AW_iload dX7_takes_57 rfl ?_
        refine AW_ialdN (j := i) dX7_takes_59 rfl (Nat.le_of_ble_eq_true rfl) (by omega) (by omega) ?_
        rw [hri.2]
        refine AW_iload_n dX7_takes_60 rfl ?_
        refine AW_icmp_ne 69 dX7_takes_61 (by decide) (by omega) (by omega) (fun h61 => ?_) (fun h61 => ?_)
        · refine AW_iload_n dX7_takes_69 rfl ?_
          refine AW_istore_n (i := 3) (lv' := [_, _, _, _, _]) dX7_takes_70 rfl (by decide) (Nat.le_of_ble_eq_true rfl) rfl ?_
          refine AW_iinc (lv' := [_, _, _, _, _]) dX7_takes_71 rfl (by decide) rfl ?_
          refine AW_goto (tgt := 29) dX7_takes_74 (by decide) ?_
          have e : takesN pl arm tick (i + 1) = if pTick pl i = tick ∧ pArm pl i = arm then (i : Int) else takesN pl arm tick i := rfl
          have h9 := ih (by omega)
          first
          | (rw [if_pos (by omega)] at e; rw [e] at h9; exact h9)
          | (rw [if_neg (by omega)] at e; rw [e] at h9; exact h9)
        · refine AW_iload dX7_takes_64 rfl ?_
          refine AW_goto (tgt := 70) dX7_takes_66 (by decide) ?_
          refine AW_istore_n (i := 3) (lv' := [_, _, _, _, _]) dX7_takes_70 rfl (by decide) (Nat.le_of_ble_eq_true rfl) rfl ?_
          refine AW_iinc (lv' := [_, _, _, _, _]) dX7_takes_71 rfl (by decide) rfl ?_
          refine AW_goto (tgt := 29) dX7_takes_74 (by decide) ?_
          have e : takesN pl arm tick (i + 1) = if pTick pl i = tick ∧ pArm pl i = arm then (i : Int) else takesN pl arm tick i := rfl
          have h9 := ih (by omega)
          first
          | (rw [if_pos (by omega)] at e; rw [e] at h9; exact h9)
          | (rw [if_neg (by omega)] at e; rw [e] at h9; exact h9))
theorem c_takes7 {σ : am_S} (hS : WS (σ.1 71)) (hT : WT (σ.1 71)) (hA : WA (σ.1 71)) {n : Nat} (hmany : σ.1 71 6423 = (n : Nat)) {arm tick : Int} (harm : -2147483648 ≤ arm ∧ arm < 2147483648) (htick : -2147483648 ≤ tick ∧ tick < 2147483648) : Runs am_tab mX7_takes [vR 70, vI arm, vI tick] σ (QI (fun z σ' => if 0 ≤ arm ∧ arm ≤ 3 then (if 0 ≤ tick ∧ tick ≤ 300 then Eqx [70, 74, 75, 76, 77, 78, 79, 80, 81, 82, 83] σ σ' ∧ ∃ pl, PlanIs (σ.1 71) n σ' pl ∧ z = takesN pl arm tick n else z = -2 ∧ σ' = σ) else z = -1 ∧ σ' = σ)) := by
  refine Runs.of (by decide) rfl (by simp) (Nat.le_of_ble_eq_true rfl) ?_
  show AW am_tab mX7_takes 0 [some (vR 70), some (vI arm), some (vI tick), none, none] [] σ _
  refine AW_iload_n dX7_takes_0 rfl ?_
  refine AW_cSI1 dX7_takes_1 kX7_89 (am_fit_b rfl) (Nat.le_of_ble_eq_true rfl) (c_isArm7 harm) (fun z σ' hq => ?_)
  obtain ⟨rfl, ⟨rfl, h1⟩ | ⟨rfl, h1⟩⟩ := hq
  · refine AW_if_ne 9 dX7_takes_4 (by decide) (by decide) (fun _ => ?_) (fun h => absurd (by decide) h)
    refine AW_iload_n dX7_takes_9 rfl ?_
    refine AW_cSI1 dX7_takes_10 kX7_60 (am_fit_b rfl) (Nat.le_of_ble_eq_true rfl) (c_isTick7 htick) (fun z σ' hq => ?_)
    obtain ⟨rfl, ⟨rfl, h10⟩ | ⟨rfl, h10⟩⟩ := hq
    · refine AW_if_ne 19 dX7_takes_13 (by decide) (by decide) (fun _ => ?_) (fun h => absurd (by decide) h)
      refine AW_aload_n dX7_takes_19 rfl ?_
      refine AW_cVV0 dX7_takes_20 kX7_119 (am_fit_b rfl) rfl rfl (Nat.le_of_ble_eq_true rfl) (c_layPlan7 hS hT hA hmany) (fun σ' hq => ?_)
      obtain ⟨hE, pl, hPl⟩ := hq
      have hm2 : σ'.1 71 6423 = (n : Nat) := by rw [hE.1 71 (by decide)]; exact hmany
      have hn : n ≤ 20 := by have := hT.1; omega
      refine AW_bipush dX7_takes_23 (by decide) ?_
      refine AW_istore_n (i := 3) (lv' := [_, _, _, _, _]) dX7_takes_25 rfl (by decide) (Nat.le_of_ble_eq_true rfl) rfl ?_
      refine AW_iconst dX7_takes_26 ?_
      refine AW_istore (lv' := [_, _, _, _, _]) dX7_takes_27 (by decide) (Nat.le_of_ble_eq_true rfl) rfl ?_
      refine l_takes7 hPl.1 hPl.2.1 hm2 hn harm htick ⟨_, rfl, ?_⟩ 0 (by omega)
      dsimp only
      rw [if_pos (by omega), if_pos (by omega)]
      exact ⟨hE, pl, hPl, rfl⟩
    · refine AW_if_ne 19 dX7_takes_13 (by decide) (by decide) (fun h => absurd h (by decide)) (fun _ => ?_)
      refine AW_bipush dX7_takes_16 (by decide) ?_
      refine AW_iret dX7_takes_18 rfl ?_
      refine ⟨_, rfl, ?_⟩
      dsimp only
      rw [if_pos (by omega), if_neg (by omega)]
      exact ⟨rfl, rfl⟩
  · refine AW_if_ne 9 dX7_takes_4 (by decide) (by decide) (fun h => absurd h (by decide)) (fun _ => ?_)
    refine AW_iconst dX7_takes_7 ?_
    refine AW_iret dX7_takes_8 rfl ?_
    refine ⟨_, rfl, ?_⟩
    dsimp only
    rw [if_neg (by omega)]
    exact ⟨rfl, rfl⟩
theorem l_plan7 {X : Row} {n : Nat} {pl : Nat → Option Sl} {σ : am_S} (hP : PlanSpec (gA X (-6)) n pl) (hR : ∀ k, k < n → wbR (σ.1 82) (σ.1 83) k (pl k)) (hmany : σ.1 71 6423 = (n : Nat)) (hn : n ≤ 20) {what : Int} {Q : Option am_V → am_S → Prop} (hk2 : AW am_tab mX7_plan 97 [some (vR 70), some (vI what), some (vI (lastN pl n)), some (vI (bset (missB pl) n : Nat)), some (vI (n : Nat))] [] σ Q) : ∀ i : Nat, i ≤ n → (-6 ≤ lastN pl i ∧ lastN pl i ≤ 300) → AW am_tab mX7_plan 34 [some (vR 70), some (vI what), some (vI (lastN pl i)), some (vI (bset (missB pl) i : Nat)), some (vI i)] [] σ Q :=
  up_loop (fun i hi ih hl => by
    have hbs := bset_small (missB pl) (k := i) (by omega)
    have hlb : -6 ≤ lastN pl i ∧ lastN pl i ≤ 300 := hl
    refine AW_iload dX7_plan_34 rfl ?_
    refine AW_aload_n dX7_plan_36 rfl ?_
    refine AW_get dX7_plan_37 fX7_7 rfl rfl ?_
    refine AW_sipush dX7_plan_40 (by decide) ?_
    refine AW_ialdN (j := 6423) dX7_plan_43 rfl (Nat.le_of_ble_eq_true rfl) (by omega) (by omega) ?_
    rw [hmany]
    refine AW_icmp_ge 97 dX7_plan_44 (by decide) (by omega) (by omega) (fun h44 => ?_) (fun h44 => ?_)
    · have e : i = n := by omega
      subst e
      exact hk2
    · refine AW_aload_n dX7_plan_47 rfl ?_
      refine AW_get dX7_plan_48 fX7_44 rfl rfl ?_
      refine AW_iload dX7_plan_51 rfl ?_
      refine AW_ialdN (j := i) dX7_plan_53 rfl (Nat.le_of_ble_eq_true rfl) (by omega) (by omega) ?_
      have hb := hP.b (k := i) (by omega)
      have hri := wbR_at (hR i (by omega))
      rw [hri.1]
      refine AW_iload_n dX7_plan_54 rfl ?_
      refine AW_icmp_le 68 dX7_plan_55 (by decide) (by omega) (by omega) (fun h55 => ?_) (fun h55 => ?_)
      · refine AW_iload_n dX7_plan_68 rfl ?_
        refine AW_istore_n (i := 2) (lv' := [_, _, _, _, _]) dX7_plan_69 rfl (by decide) (Nat.le_of_ble_eq_true rfl) rfl ?_
        refine AW_iload_n dX7_plan_70 rfl ?_
        refine AW_aload_n dX7_plan_71 rfl ?_
        refine AW_get dX7_plan_72 fX7_44 rfl rfl ?_
        refine AW_iload dX7_plan_75 rfl ?_
        refine AW_ialdN (j := i) dX7_plan_77 rfl (Nat.le_of_ble_eq_true rfl) (by omega) (by omega) ?_
        rw [hri.1]
        refine AW_if_ge 88 dX7_plan_78 (by decide) (by omega) (fun h78 => ?_) (fun h78 => ?_)
        · refine AW_iconst dX7_plan_88 ?_
          first
          | refine AW_ior (z := ((bset (missB pl) i + 2 ^ i : Nat) : Int)) dX7_plan_89 (i32_or_pow (bset_lt _ _) (by omega)) ?_
          | refine AW_ior (z := ((bset (missB pl) i : Nat) : Int)) dX7_plan_89 i32_or_0 ?_
          refine AW_istore_n (i := 3) (lv' := [_, _, _, _, _]) dX7_plan_90 rfl (by decide) (Nat.le_of_ble_eq_true rfl) rfl ?_
          refine AW_iinc (lv' := [_, _, _, _, _]) dX7_plan_91 rfl (by decide) rfl ?_
          refine AW_goto (tgt := 34) dX7_plan_94 (by decide) ?_
          have hlt : -6 ≤ lastN pl i ∧ lastN pl i ≤ 300 := hlb
          have h9 := ih (by omega) (by simp only [lastN]; split <;> omega)
          have e2 : bset (missB pl) (i + 1) = bset (missB pl) i + (if missB pl i = true then 2 ^ i else 0) := rfl
          first
          | rw [if_pos (missB_t.mpr (by omega))] at e2
          | (rw [if_neg (fun h => by have := missB_t.mp h; omega)] at e2; rw [Nat.add_zero] at e2)
          have e1 : lastN pl (i + 1) = if lastN pl i < pTick pl i then pTick pl i else lastN pl i := rfl
          first
          | rw [if_pos (by omega)] at e1
          | rw [if_neg (by omega)] at e1
          rw [e1, e2] at h9
          exact h9
        · refine AW_iconst dX7_plan_81 ?_
          refine AW_iload dX7_plan_82 rfl ?_
          refine AW_ishl (z := ((2 ^ i : Nat) : Int)) dX7_plan_84 (i32_shl1 ⟨i, by omega⟩) ?_
          refine AW_goto (tgt := 89) dX7_plan_85 (by decide) ?_
          first
          | refine AW_ior (z := ((bset (missB pl) i + 2 ^ i : Nat) : Int)) dX7_plan_89 (i32_or_pow (bset_lt _ _) (by omega)) ?_
          | refine AW_ior (z := ((bset (missB pl) i : Nat) : Int)) dX7_plan_89 i32_or_0 ?_
          refine AW_istore_n (i := 3) (lv' := [_, _, _, _, _]) dX7_plan_90 rfl (by decide) (Nat.le_of_ble_eq_true rfl) rfl ?_
          refine AW_iinc (lv' := [_, _, _, _, _]) dX7_plan_91 rfl (by decide) rfl ?_
          refine AW_goto (tgt := 34) dX7_plan_94 (by decide) ?_
          have hlt : -6 ≤ lastN pl i ∧ lastN pl i ≤ 300 := hlb
          have h9 := ih (by omega) (by simp only [lastN]; split <;> omega)
          have e2 : bset (missB pl) (i + 1) = bset (missB pl) i + (if missB pl i = true then 2 ^ i else 0) := rfl
          first
          | rw [if_pos (missB_t.mpr (by omega))] at e2
          | (rw [if_neg (fun h => by have := missB_t.mp h; omega)] at e2; rw [Nat.add_zero] at e2)
          have e1 : lastN pl (i + 1) = if lastN pl i < pTick pl i then pTick pl i else lastN pl i := rfl
          first
          | rw [if_pos (by omega)] at e1
          | rw [if_neg (by omega)] at e1
          rw [e1, e2] at h9
          exact h9
      · refine AW_aload_n dX7_plan_58 rfl ?_
        refine AW_get dX7_plan_59 fX7_44 rfl rfl ?_
        refine AW_iload dX7_plan_62 rfl ?_
        refine AW_ialdN (j := i) dX7_plan_64 rfl (Nat.le_of_ble_eq_true rfl) (by omega) (by omega) ?_
        rw [hri.1]
        refine AW_goto (tgt := 69) dX7_plan_65 (by decide) ?_
        refine AW_istore_n (i := 2) (lv' := [_, _, _, _, _]) dX7_plan_69 rfl (by decide) (Nat.le_of_ble_eq_true rfl) rfl ?_
        refine AW_iload_n dX7_plan_70 rfl ?_
        refine AW_aload_n dX7_plan_71 rfl ?_
        refine AW_get dX7_plan_72 fX7_44 rfl rfl ?_
        refine AW_iload dX7_plan_75 rfl ?_
        refine AW_ialdN (j := i) dX7_plan_77 rfl (Nat.le_of_ble_eq_true rfl) (by omega) (by omega) ?_
        rw [hri.1]
        refine AW_if_ge 88 dX7_plan_78 (by decide) (by omega) (fun h78 => ?_) (fun h78 => ?_)
        · refine AW_iconst dX7_plan_88 ?_
          first
          | refine AW_ior (z := ((bset (missB pl) i + 2 ^ i : Nat) : Int)) dX7_plan_89 (i32_or_pow (bset_lt _ _) (by omega)) ?_
          | refine AW_ior (z := ((bset (missB pl) i : Nat) : Int)) dX7_plan_89 i32_or_0 ?_
          refine AW_istore_n (i := 3) (lv' := [_, _, _, _, _]) dX7_plan_90 rfl (by decide) (Nat.le_of_ble_eq_true rfl) rfl ?_
          refine AW_iinc (lv' := [_, _, _, _, _]) dX7_plan_91 rfl (by decide) rfl ?_
          refine AW_goto (tgt := 34) dX7_plan_94 (by decide) ?_
          have hlt : -6 ≤ lastN pl i ∧ lastN pl i ≤ 300 := hlb
          have h9 := ih (by omega) (by simp only [lastN]; split <;> omega)
          have e2 : bset (missB pl) (i + 1) = bset (missB pl) i + (if missB pl i = true then 2 ^ i else 0) := rfl
          first
          | rw [if_pos (missB_t.mpr (by omega))] at e2
          | (rw [if_neg (fun h => by have := missB_t.mp h; omega)] at e2; rw [Nat.add_zero] at e2)
          have e1 : lastN pl (i + 1) = if lastN pl i < pTick pl i then pTick pl i else lastN pl i := rfl
          first
          | rw [if_pos (by omega)] at e1
          | rw [if_neg (by omega)] at e1
          rw [e1, e2] at h9
          exact h9
        · refine AW_iconst dX7_plan_81 ?_
          refine AW_iload dX7_plan_82 rfl ?_
          refine AW_ishl (z := ((2 ^ i : Nat) : Int)) dX7_plan_84 (i32_shl1 ⟨i, by omega⟩) ?_
          refine AW_goto (tgt := 89) dX7_plan_85 (by decide) ?_
          first
          | refine AW_ior (z := ((bset (missB pl) i + 2 ^ i : Nat) : Int)) dX7_plan_89 (i32_or_pow (bset_lt _ _) (by omega)) ?_
          | refine AW_ior (z := ((bset (missB pl) i : Nat) : Int)) dX7_plan_89 i32_or_0 ?_
          refine AW_istore_n (i := 3) (lv' := [_, _, _, _, _]) dX7_plan_90 rfl (by decide) (Nat.le_of_ble_eq_true rfl) rfl ?_
          refine AW_iinc (lv' := [_, _, _, _, _]) dX7_plan_91 rfl (by decide) rfl ?_
          refine AW_goto (tgt := 34) dX7_plan_94 (by decide) ?_
          have hlt : -6 ≤ lastN pl i ∧ lastN pl i ≤ 300 := hlb
          have h9 := ih (by omega) (by simp only [lastN]; split <;> omega)
          have e2 : bset (missB pl) (i + 1) = bset (missB pl) i + (if missB pl i = true then 2 ^ i else 0) := rfl
          first
          | rw [if_pos (missB_t.mpr (by omega))] at e2
          | (rw [if_neg (fun h => by have := missB_t.mp h; omega)] at e2; rw [Nat.add_zero] at e2)
          have e1 : lastN pl (i + 1) = if lastN pl i < pTick pl i then pTick pl i else lastN pl i := rfl
          first
          | rw [if_pos (by omega)] at e1
          | rw [if_neg (by omega)] at e1
          rw [e1, e2] at h9
          exact h9)
