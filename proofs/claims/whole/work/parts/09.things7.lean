/-! ===== THINGS and ARMS over the reference's row ===== -/
def WT (X : Row) : Prop := (0 ≤ X 6423 ∧ X 6423 ≤ 20) ∧ ∀ k : Nat, (k : Int) < X 6423 → (0 ≤ X (301 + k) ∧ X (301 + k) ≤ 300) ∧ (0 ≤ X (321 + k) ∧ X (321 + k) ≤ 3) ∧ (0 ≤ X (341 + k) ∧ X (341 + k) ≤ 60) ∧ (0 ≤ X (361 + k) ∧ X (361 + k) ≤ 2) ∧ ∀ t, t ≤ 300 → 0 ≤ X (381 + 301 * k + t) ∧ X (381 + 301 * k + t) ≤ 1
def WA (X : Row) : Prop := (∀ a, a < 4 → (0 ≤ X (6401 + a) ∧ X (6401 + a) ≤ X (6405 + a) ∧ X (6405 + a) ≤ 999) ∧ (1 ≤ X (6409 + a) ∧ X (6409 + a) ≤ 20) ∧ (0 ≤ X (6413 + a) ∧ X (6413 + a) < X (6409 + a)) ∧ (0 ≤ X (6417 + a) ∧ X (6417 + a) ≤ 15)) ∧ ∀ a b, a < 4 → b < 4 → a ≠ b → X (6405 + a) < X (6401 + b) ∨ X (6405 + b) < X (6401 + a)
def WN (X : Row) : Prop := (0 ≤ X 6421 ∧ X 6421 ≤ 20) ∧ 1 ≤ X 6422 ∧ X 6422 ≤ 6
/-- the PLACE of THING k at TICK t -/
def plc (X : Row) (k t : Nat) : Int := X (341 + k) + gn X t - gn X (X (301 + k)).toNat
theorem plc_b {X : Row} (hS : WS X) (hT : WT X) {k t : Nat} (hk : (k : Int) < X 6423) (ht : t ≤ 300) : -2700 ≤ plc X k t ∧ plc X k t ≤ 2760 := by
  have h1 := hT.2 k hk
  have h2 := gn_b hS t (by omega)
  have h3 := gn_b hS (X (301 + k)).toNat (by omega)
  unfold plc
  omega
/-- ARM a CAN take THING k at TICK t -/
def canB (X : Row) (a k t : Nat) : Bool := decide (((t : Int) - X (6413 + a)).tmod (X (6409 + a)) = 0 ∧ X (6417 + a) / 2 ^ (X (321 + k)).toNat % 2 = 1 ∧ X (301 + k) < t ∧ X (6401 + a) ≤ plc X k t ∧ plc X k t ≤ X (6405 + a))
def avX (X : Row) (w : Int) (k t : Nat) : Nat → Int
  | 0 => -6
  | a + 1 => if (a : Int) ≠ w ∧ canB X a k t = true then a else avX X w k t a
theorem avX_b {X : Row} {w : Int} {k t : Nat} : ∀ a, -6 ≤ avX X w k t a ∧ avX X w k t a < a ∨ avX X w k t a = -6 := by
  intro a
  induction a with
  | zero => simp [avX]
  | succ a ih => simp only [avX]; split <;> omega
def armR (X : Row) (w : Int) (i : Nat) : Int := avX X w (i / 301) (i % 301) 4
theorem lane_shr : ∀ x : Fin 16, ∀ y : Fin 4, Int32.ofInt (x.val : Int) >>> (Int32.ofInt (y.val : Int) &&& 31) = Int32.ofInt ((x.val : Int) / 2 ^ y.val) := by decide
theorem lane_and : ∀ x : Fin 16, Int32.ofInt (x.val : Int) &&& Int32.ofInt 1 = Int32.ofInt ((x.val : Int) % 2) := by decide
theorem lane_shr' {x y : Int} (hx : 0 ≤ x ∧ x ≤ 15) (hy : 0 ≤ y ∧ y ≤ 3) : Int32.ofInt x >>> (Int32.ofInt y &&& 31) = Int32.ofInt (x / 2 ^ y.toNat) := by
  have h := lane_shr ⟨x.toNat, by omega⟩ ⟨y.toNat, by omega⟩
  simp only [show ((x.toNat : Nat) : Int) = x by omega, show ((y.toNat : Nat) : Int) = y by omega] at h
  exact h
theorem lane_and' {x : Int} (hx : 0 ≤ x ∧ x ≤ 15) : Int32.ofInt x &&& Int32.ofInt 1 = Int32.ofInt (x % 2) := by
  have h := lane_and ⟨x.toNat, by omega⟩
  simp only [show ((x.toNat : Nat) : Int) = x by omega] at h
  exact h
theorem div_pow_b {x : Int} (n : Nat) (hx : 0 ≤ x ∧ x ≤ 15) : 0 ≤ x / 2 ^ n ∧ x / 2 ^ n ≤ 15 := by
  have hp : (0 : Int) < 2 ^ n := Int.pow_pos (by decide)
  refine ⟨Int.ediv_nonneg hx.1 (by omega), ?_⟩
  have := Int.ediv_le_self (2 ^ n) hx.1
  omega
theorem c_placeOf7 {σ : am_S} (hS : WS (σ.1 71)) (hT : WT (σ.1 71)) (hg : ∀ t, t ≤ 300 → σ.1 74 t = gn (σ.1 71) t) {k t : Nat} (hk : (k : Int) < σ.1 71 6423) (ht : t ≤ 300) : Runs am_tab mX7_placeOf [vR 70, vI k, vI t] σ (QI (fun z σ' => z = plc (σ.1 71) k t ∧ σ' = σ)) := by
  refine Runs.of (by decide) rfl (by simp) (Nat.le_of_ble_eq_true rfl) ?_
  show AW am_tab mX7_placeOf 0 [some (vR 70), some (vI k), some (vI t)] [] σ _
  have hk2 := hT.2 k hk
  have hM := hT.1
  refine AW_aload_n dX7_placeOf_0 rfl ?_
  refine AW_get dX7_placeOf_1 fX7_7 rfl rfl ?_
  refine AW_sipush dX7_placeOf_4 (by decide) ?_
  refine AW_iload_n dX7_placeOf_7 rfl ?_
  refine AW_iadd dX7_placeOf_8 ?_
  refine AW_ialdN (j := 341 + k) dX7_placeOf_9 rfl (Nat.le_of_ble_eq_true rfl) (by omega) (by omega) ?_
  refine AW_aload_n dX7_placeOf_10 rfl ?_
  refine AW_get dX7_placeOf_11 fX7_20 rfl rfl ?_
  refine AW_iload_n dX7_placeOf_14 rfl ?_
  refine AW_ialdN (j := t) dX7_placeOf_15 rfl (Nat.le_of_ble_eq_true rfl) (by omega) (by omega) ?_
  refine AW_iadd dX7_placeOf_16 ?_
  refine AW_aload_n dX7_placeOf_17 rfl ?_
  refine AW_get dX7_placeOf_18 fX7_20 rfl rfl ?_
  refine AW_aload_n dX7_placeOf_21 rfl ?_
  refine AW_get dX7_placeOf_22 fX7_7 rfl rfl ?_
  refine AW_sipush dX7_placeOf_25 (by decide) ?_
  refine AW_iload_n dX7_placeOf_28 rfl ?_
  refine AW_iadd dX7_placeOf_29 ?_
  refine AW_ialdN (j := 301 + k) dX7_placeOf_30 rfl (Nat.le_of_ble_eq_true rfl) (by omega) (by omega) ?_
  refine AW_ialdN (j := (σ.1 71 (301 + k)).toNat) dX7_placeOf_31 rfl (Nat.le_of_ble_eq_true rfl) (by omega) (by omega) ?_
  refine AW_isub dX7_placeOf_32 ?_
  refine AW_iret dX7_placeOf_33 rfl ?_
  refine ⟨_, rfl, ?_, rfl⟩
  rw [hg t ht, hg _ (by omega)]
  rfl
theorem c_wasSeen7 {σ : am_S} (hT : WT (σ.1 71)) {k t : Nat} (hk : (k : Int) < σ.1 71 6423) (ht : t ≤ 300) : Runs am_tab mX7_wasSeen [vR 70, vI k, vI t] σ (QB (σ.1 71 (381 + 301 * k + t) = 1) σ) := by
  refine Runs.of (by decide) rfl (by simp) (Nat.le_of_ble_eq_true rfl) ?_
  show AW am_tab mX7_wasSeen 0 [some (vR 70), some (vI k), some (vI t)] [] σ _
  have hk2 := (hT.2 k hk).2.2.2.2 t ht
  have hM := hT.1
  refine AW_aload_n dX7_wasSeen_0 rfl ?_
  refine AW_get dX7_wasSeen_1 fX7_7 rfl rfl ?_
  refine AW_sipush dX7_wasSeen_4 (by decide) ?_
  refine AW_sipush dX7_wasSeen_7 (by decide) ?_
  refine AW_iload_n dX7_wasSeen_10 rfl ?_
  refine AW_imul dX7_wasSeen_11 ?_
  refine AW_iadd dX7_wasSeen_12 ?_
  refine AW_iload_n dX7_wasSeen_13 rfl ?_
  refine AW_iadd dX7_wasSeen_14 ?_
  refine AW_ialdN (j := 381 + 301 * k + t) dX7_wasSeen_15 rfl (Nat.le_of_ble_eq_true rfl) (by omega) (by omega) ?_
  refine AW_iconst dX7_wasSeen_16 ?_
  refine AW_icmp_ne 24 dX7_wasSeen_17 (by decide) (by omega) (by omega) (fun h17 => ?_) (fun h17 => ?_)
  · refine AW_iconst dX7_wasSeen_24 ?_
    refine AW_zret dX7_wasSeen_25 rfl (by first | exact Or.inl rfl | exact Or.inr rfl) ?_
    exact ⟨_, rfl, rfl, by first | exact Or.inl ⟨rfl, by omega⟩ | exact Or.inr ⟨rfl, by omega⟩⟩
  · refine AW_iconst dX7_wasSeen_20 ?_
    refine AW_goto (tgt := 25) dX7_wasSeen_21 (by decide) ?_
    refine AW_zret dX7_wasSeen_25 rfl (by first | exact Or.inl rfl | exact Or.inr rfl) ?_
    exact ⟨_, rfl, rfl, by first | exact Or.inl ⟨rfl, by omega⟩ | exact Or.inr ⟨rfl, by omega⟩⟩
theorem c_size7 {T : List am_C} {σ : am_S} {x : Int} (hx : -2147483647 ≤ x ∧ x < 2147483648) : Runs T mX7_size [vI x] σ (QI (fun z σ' => z = (x.natAbs : Int) ∧ σ' = σ)) := by
  refine Runs.of (by decide) rfl (by simp) (Nat.le_of_ble_eq_true rfl) ?_
  show AW T mX7_size 0 [some (vI x)] [] σ _
  refine AW_iload_n dX7_size_0 rfl ?_
  refine AW_if_ge 9 dX7_size_1 (by decide) (by omega) (fun h1 => ?_) (fun h1 => ?_)
  · refine AW_iload_n dX7_size_9 rfl ?_
    refine AW_iret dX7_size_10 rfl ?_
    refine ⟨_, rfl, ?_, rfl⟩
    omega
  · refine AW_iload_n dX7_size_4 rfl ?_
    refine AW_ineg dX7_size_5 ?_
    refine AW_goto (tgt := 10) dX7_size_6 (by decide) ?_
    refine AW_iret dX7_size_10 rfl ?_
    refine ⟨_, rfl, ?_, rfl⟩
    omega
theorem Int.neg_lt_tmod_of_pos (a : Int) {b : Int} (h : 0 < b) : -b < a.tmod b := by
  have h1 := Int.tmod_lt_of_pos (-a) h
  rw [Int.neg_tmod] at h1
  omega
theorem c_canTake7 {σ : am_S} (hS : WS (σ.1 71)) (hT : WT (σ.1 71)) (hA : WA (σ.1 71)) (hg : ∀ t, t ≤ 300 → σ.1 74 t = gn (σ.1 71) t) {a k t : Nat} (ha : a < 4) (hk : (k : Int) < σ.1 71 6423) (ht : t ≤ 300) : Runs am_tab mX7_canTake [vR 70, vI a, vI k, vI t] σ (QB (canB (σ.1 71) a k t = true) σ) := by
  refine Runs.of (by decide) rfl (by simp) (Nat.le_of_ble_eq_true rfl) ?_
  show AW am_tab mX7_canTake 0 [some (vR 70), some (vI a), some (vI k), some (vI t), none, none, none] [] σ _
  have hk2 := hT.2 k hk
  have hM := hT.1
  have ha2 := hA.1 a ha
  have hp := plc_b hS hT hk ht
  have hd := div_pow_b (σ.1 71 (321 + k)).toNat ha2.2.2.2
  have hd2 := Int.emod_two_eq (σ.1 71 (6417 + a) / 2 ^ (σ.1 71 (321 + k)).toNat)
  refine AW_aload_n dX7_canTake_0 rfl ?_
  refine AW_iload_n dX7_canTake_1 rfl ?_
  refine AW_iload_n dX7_canTake_2 rfl ?_
  refine AW_cVI2 dX7_canTake_3 kX7_75 (am_fit_b rfl) rfl rfl (Nat.le_of_ble_eq_true rfl) (c_placeOf7 hS hT hg hk ht) (fun z σ' hq => ?_)
  obtain ⟨hz, hs⟩ := hq
  replace hz := hz.symm
  subst hz
  replace hs := hs.symm
  subst hs
  refine AW_istore (lv' := [_, _, _, _, _, _, _]) dX7_canTake_6 (by decide) (Nat.le_of_ble_eq_true rfl) rfl ?_
  refine AW_iload_n dX7_canTake_8 rfl ?_
  refine AW_aload_n dX7_canTake_9 rfl ?_
  refine AW_get dX7_canTake_10 fX7_7 rfl rfl ?_
  refine AW_sipush dX7_canTake_13 (by decide) ?_
  refine AW_iload_n dX7_canTake_16 rfl ?_
  refine AW_iadd dX7_canTake_17 ?_
  refine AW_ialdN (j := 6413 + a) dX7_canTake_18 rfl (Nat.le_of_ble_eq_true rfl) (by omega) (by omega) ?_
  refine AW_isub dX7_canTake_19 ?_
  refine AW_aload_n dX7_canTake_20 rfl ?_
  refine AW_get dX7_canTake_21 fX7_7 rfl rfl ?_
  refine AW_sipush dX7_canTake_24 (by decide) ?_
  refine AW_iload_n dX7_canTake_27 rfl ?_
  refine AW_iadd dX7_canTake_28 ?_
  refine AW_ialdN (j := 6409 + a) dX7_canTake_29 rfl (Nat.le_of_ble_eq_true rfl) (by omega) (by omega) ?_
  refine AW_irem dX7_canTake_30 (by omega) (by omega) (by omega) ?_
  have hr := Int.tmod_lt_of_pos ((t : Int) - σ.1 71 (6413 + a)) (show 0 < σ.1 71 (6409 + a) by omega)
  have hr2 := Int.neg_lt_tmod_of_pos ((t : Int) - σ.1 71 (6413 + a)) (show 0 < σ.1 71 (6409 + a) by omega)
  refine AW_if_ne 38 dX7_canTake_31 (by decide) (by omega) (fun h31 => ?_) (fun h31 => ?_)
  · refine AW_iconst dX7_canTake_38 ?_
    refine AW_istore (lv' := [_, _, _, _, _, _, _]) dX7_canTake_39 (by decide) (Nat.le_of_ble_eq_true rfl) rfl ?_
    refine AW_aload_n dX7_canTake_41 rfl ?_
    refine AW_get dX7_canTake_42 fX7_7 rfl rfl ?_
    refine AW_sipush dX7_canTake_45 (by decide) ?_
    refine AW_iload_n dX7_canTake_48 rfl ?_
    refine AW_iadd dX7_canTake_49 ?_
    refine AW_ialdN (j := 6417 + a) dX7_canTake_50 rfl (Nat.le_of_ble_eq_true rfl) (by omega) (by omega) ?_
    refine AW_aload_n dX7_canTake_51 rfl ?_
    refine AW_get dX7_canTake_52 fX7_7 rfl rfl ?_
    refine AW_sipush dX7_canTake_55 (by decide) ?_
    refine AW_iload_n dX7_canTake_58 rfl ?_
    refine AW_iadd dX7_canTake_59 ?_
    refine AW_ialdN (j := 321 + k) dX7_canTake_60 rfl (Nat.le_of_ble_eq_true rfl) (by omega) (by omega) ?_
    refine AW_ishr (z := σ.1 71 (6417 + a) / 2 ^ (σ.1 71 (321 + k)).toNat) dX7_canTake_61 (lane_shr' ha2.2.2.2 hk2.2.1) ?_
    refine AW_iconst dX7_canTake_62 ?_
    refine AW_iand (z := σ.1 71 (6417 + a) / 2 ^ (σ.1 71 (321 + k)).toNat % 2) dX7_canTake_63 (lane_and' hd) ?_
    refine AW_iconst dX7_canTake_64 ?_
    refine AW_icmp_ne 72 dX7_canTake_65 (by decide) (by omega) (by omega) (fun h65 => ?_) (fun h65 => ?_)
    · refine AW_iconst dX7_canTake_72 ?_
      refine AW_istore (lv' := [_, _, _, _, _, _, _]) dX7_canTake_73 (by decide) (Nat.le_of_ble_eq_true rfl) rfl ?_
      refine AW_iload dX7_canTake_75 rfl ?_
      refine AW_if_eq 131 dX7_canTake_77 (by decide) (by omega) (fun h77 => ?_) (fun h77 => ?_)
      · refine AW_iconst dX7_canTake_131 ?_
        refine AW_zret dX7_canTake_132 rfl (by first | exact Or.inl rfl | exact Or.inr rfl) ?_
        first
        | (exfalso; omega)
        | exact ⟨_, rfl, rfl, Or.inl ⟨rfl, by simp only [canB, decide_eq_true_eq]; omega⟩⟩
        | exact ⟨_, rfl, rfl, Or.inr ⟨rfl, by simp only [canB, decide_eq_true_eq]; omega⟩⟩
      · refine AW_iload dX7_canTake_80 rfl ?_
        refine AW_if_eq 131 dX7_canTake_82 (by decide) (by omega) (fun h82 => ?_) (fun h82 => ?_)
        · refine AW_iconst dX7_canTake_131 ?_
          refine AW_zret dX7_canTake_132 rfl (by first | exact Or.inl rfl | exact Or.inr rfl) ?_
          first
          | (exfalso; omega)
          | exact ⟨_, rfl, rfl, Or.inl ⟨rfl, by simp only [canB, decide_eq_true_eq]; omega⟩⟩
          | exact ⟨_, rfl, rfl, Or.inr ⟨rfl, by simp only [canB, decide_eq_true_eq]; omega⟩⟩
        · refine AW_iload_n dX7_canTake_85 rfl ?_
          refine AW_aload_n dX7_canTake_86 rfl ?_
          refine AW_get dX7_canTake_87 fX7_7 rfl rfl ?_
          refine AW_sipush dX7_canTake_90 (by decide) ?_
          refine AW_iload_n dX7_canTake_93 rfl ?_
          refine AW_iadd dX7_canTake_94 ?_
          refine AW_ialdN (j := 301 + k) dX7_canTake_95 rfl (Nat.le_of_ble_eq_true rfl) (by omega) (by omega) ?_
          refine AW_icmp_le 131 dX7_canTake_96 (by decide) (by omega) (by omega) (fun h96 => ?_) (fun h96 => ?_)
          · refine AW_iconst dX7_canTake_131 ?_
            refine AW_zret dX7_canTake_132 rfl (by first | exact Or.inl rfl | exact Or.inr rfl) ?_
            first
            | (exfalso; omega)
            | exact ⟨_, rfl, rfl, Or.inl ⟨rfl, by simp only [canB, decide_eq_true_eq]; omega⟩⟩
            | exact ⟨_, rfl, rfl, Or.inr ⟨rfl, by simp only [canB, decide_eq_true_eq]; omega⟩⟩
          · refine AW_iload dX7_canTake_99 rfl ?_
            refine AW_aload_n dX7_canTake_101 rfl ?_
            refine AW_get dX7_canTake_102 fX7_7 rfl rfl ?_
            refine AW_sipush dX7_canTake_105 (by decide) ?_
            refine AW_iload_n dX7_canTake_108 rfl ?_
            refine AW_iadd dX7_canTake_109 ?_
            refine AW_ialdN (j := 6401 + a) dX7_canTake_110 rfl (Nat.le_of_ble_eq_true rfl) (by omega) (by omega) ?_
            refine AW_aload_n dX7_canTake_111 rfl ?_
            refine AW_get dX7_canTake_112 fX7_7 rfl rfl ?_
            refine AW_sipush dX7_canTake_115 (by decide) ?_
            refine AW_iload_n dX7_canTake_118 rfl ?_
            refine AW_iadd dX7_canTake_119 ?_
            refine AW_ialdN (j := 6405 + a) dX7_canTake_120 rfl (Nat.le_of_ble_eq_true rfl) (by omega) (by omega) ?_
            refine AW_cSI3 dX7_canTake_121 kX7_56 (am_fit_b rfl) (Nat.le_of_ble_eq_true rfl) (c_in (by omega) (by omega) (by omega)) (fun z σ' hq => ?_)
            obtain ⟨rfl, ⟨rfl, h121⟩ | ⟨rfl, h121⟩⟩ := hq
            · refine AW_if_eq 131 dX7_canTake_124 (by decide) (by decide) (fun h => absurd h (by decide)) (fun _ => ?_)
              refine AW_iconst dX7_canTake_127 ?_
              refine AW_goto (tgt := 132) dX7_canTake_128 (by decide) ?_
              refine AW_zret dX7_canTake_132 rfl (by first | exact Or.inl rfl | exact Or.inr rfl) ?_
              first
              | (exfalso; omega)
              | exact ⟨_, rfl, rfl, Or.inl ⟨rfl, by simp only [canB, decide_eq_true_eq]; omega⟩⟩
              | exact ⟨_, rfl, rfl, Or.inr ⟨rfl, by simp only [canB, decide_eq_true_eq]; omega⟩⟩
            · refine AW_if_eq 131 dX7_canTake_124 (by decide) (by decide) (fun _ => ?_) (fun h => absurd (by decide) h)
              refine AW_iconst dX7_canTake_131 ?_
              refine AW_zret dX7_canTake_132 rfl (by first | exact Or.inl rfl | exact Or.inr rfl) ?_
              first
              | (exfalso; omega)
              | exact ⟨_, rfl, rfl, Or.inl ⟨rfl, by simp only [canB, decide_eq_true_eq]; omega⟩⟩
              | exact ⟨_, rfl, rfl, Or.inr ⟨rfl, by simp only [canB, decide_eq_true_eq]; omega⟩⟩
    · refine AW_iconst dX7_canTake_68 ?_
      refine AW_goto (tgt := 73) dX7_canTake_69 (by decide) ?_
      refine AW_istore (lv' := [_, _, _, _, _, _, _]) dX7_canTake_73 (by decide) (Nat.le_of_ble_eq_true rfl) rfl ?_
      refine AW_iload dX7_canTake_75 rfl ?_
      refine AW_if_eq 131 dX7_canTake_77 (by decide) (by omega) (fun h77 => ?_) (fun h77 => ?_)
      · refine AW_iconst dX7_canTake_131 ?_
        refine AW_zret dX7_canTake_132 rfl (by first | exact Or.inl rfl | exact Or.inr rfl) ?_
        first
        | (exfalso; omega)
        | exact ⟨_, rfl, rfl, Or.inl ⟨rfl, by simp only [canB, decide_eq_true_eq]; omega⟩⟩
        | exact ⟨_, rfl, rfl, Or.inr ⟨rfl, by simp only [canB, decide_eq_true_eq]; omega⟩⟩
      · refine AW_iload dX7_canTake_80 rfl ?_
        refine AW_if_eq 131 dX7_canTake_82 (by decide) (by omega) (fun h82 => ?_) (fun h82 => ?_)
        · refine AW_iconst dX7_canTake_131 ?_
          refine AW_zret dX7_canTake_132 rfl (by first | exact Or.inl rfl | exact Or.inr rfl) ?_
          first
          | (exfalso; omega)
          | exact ⟨_, rfl, rfl, Or.inl ⟨rfl, by simp only [canB, decide_eq_true_eq]; omega⟩⟩
          | exact ⟨_, rfl, rfl, Or.inr ⟨rfl, by simp only [canB, decide_eq_true_eq]; omega⟩⟩
        · refine AW_iload_n dX7_canTake_85 rfl ?_
          refine AW_aload_n dX7_canTake_86 rfl ?_
          refine AW_get dX7_canTake_87 fX7_7 rfl rfl ?_
          refine AW_sipush dX7_canTake_90 (by decide) ?_
          refine AW_iload_n dX7_canTake_93 rfl ?_
          refine AW_iadd dX7_canTake_94 ?_
          refine AW_ialdN (j := 301 + k) dX7_canTake_95 rfl (Nat.le_of_ble_eq_true rfl) (by omega) (by omega) ?_
          refine AW_icmp_le 131 dX7_canTake_96 (by decide) (by omega) (by omega) (fun h96 => ?_) (fun h96 => ?_)
          · refine AW_iconst dX7_canTake_131 ?_
            refine AW_zret dX7_canTake_132 rfl (by first | exact Or.inl rfl | exact Or.inr rfl) ?_
            first
            | (exfalso; omega)
            | exact ⟨_, rfl, rfl, Or.inl ⟨rfl, by simp only [canB, decide_eq_true_eq]; omega⟩⟩
            | exact ⟨_, rfl, rfl, Or.inr ⟨rfl, by simp only [canB, decide_eq_true_eq]; omega⟩⟩
          · refine AW_iload dX7_canTake_99 rfl ?_
            refine AW_aload_n dX7_canTake_101 rfl ?_
            refine AW_get dX7_canTake_102 fX7_7 rfl rfl ?_
            refine AW_sipush dX7_canTake_105 (by decide) ?_
            refine AW_iload_n dX7_canTake_108 rfl ?_
            refine AW_iadd dX7_canTake_109 ?_
            refine AW_ialdN (j := 6401 + a) dX7_canTake_110 rfl (Nat.le_of_ble_eq_true rfl) (by omega) (by omega) ?_
            refine AW_aload_n dX7_canTake_111 rfl ?_
            refine AW_get dX7_canTake_112 fX7_7 rfl rfl ?_
            refine AW_sipush dX7_canTake_115 (by decide) ?_
            refine AW_iload_n dX7_canTake_118 rfl ?_
            refine AW_iadd dX7_canTake_119 ?_
            refine AW_ialdN (j := 6405 + a) dX7_canTake_120 rfl (Nat.le_of_ble_eq_true rfl) (by omega) (by omega) ?_
            refine AW_cSI3 dX7_canTake_121 kX7_56 (am_fit_b rfl) (Nat.le_of_ble_eq_true rfl) (c_in (by omega) (by omega) (by omega)) (fun z σ' hq => ?_)
            obtain ⟨rfl, ⟨rfl, h121⟩ | ⟨rfl, h121⟩⟩ := hq
            · refine AW_if_eq 131 dX7_canTake_124 (by decide) (by decide) (fun h => absurd h (by decide)) (fun _ => ?_)
              refine AW_iconst dX7_canTake_127 ?_
              refine AW_goto (tgt := 132) dX7_canTake_128 (by decide) ?_
              refine AW_zret dX7_canTake_132 rfl (by first | exact Or.inl rfl | exact Or.inr rfl) ?_
              first
              | (exfalso; omega)
              | exact ⟨_, rfl, rfl, Or.inl ⟨rfl, by simp only [canB, decide_eq_true_eq]; omega⟩⟩
              | exact ⟨_, rfl, rfl, Or.inr ⟨rfl, by simp only [canB, decide_eq_true_eq]; omega⟩⟩
            · refine AW_if_eq 131 dX7_canTake_124 (by decide) (by decide) (fun _ => ?_) (fun h => absurd (by decide) h)
              refine AW_iconst dX7_canTake_131 ?_
              refine AW_zret dX7_canTake_132 rfl (by first | exact Or.inl rfl | exact Or.inr rfl) ?_
              first
              | (exfalso; omega)
              | exact ⟨_, rfl, rfl, Or.inl ⟨rfl, by simp only [canB, decide_eq_true_eq]; omega⟩⟩
              | exact ⟨_, rfl, rfl, Or.inr ⟨rfl, by simp only [canB, decide_eq_true_eq]; omega⟩⟩
  · refine AW_iconst dX7_canTake_34 ?_
    refine AW_goto (tgt := 39) dX7_canTake_35 (by decide) ?_
    refine AW_istore (lv' := [_, _, _, _, _, _, _]) dX7_canTake_39 (by decide) (Nat.le_of_ble_eq_true rfl) rfl ?_
    refine AW_aload_n dX7_canTake_41 rfl ?_
    refine AW_get dX7_canTake_42 fX7_7 rfl rfl ?_
    refine AW_sipush dX7_canTake_45 (by decide) ?_
    refine AW_iload_n dX7_canTake_48 rfl ?_
    refine AW_iadd dX7_canTake_49 ?_
    refine AW_ialdN (j := 6417 + a) dX7_canTake_50 rfl (Nat.le_of_ble_eq_true rfl) (by omega) (by omega) ?_
    refine AW_aload_n dX7_canTake_51 rfl ?_
    refine AW_get dX7_canTake_52 fX7_7 rfl rfl ?_
    refine AW_sipush dX7_canTake_55 (by decide) ?_
    refine AW_iload_n dX7_canTake_58 rfl ?_
    refine AW_iadd dX7_canTake_59 ?_
    refine AW_ialdN (j := 321 + k) dX7_canTake_60 rfl (Nat.le_of_ble_eq_true rfl) (by omega) (by omega) ?_
    refine AW_ishr (z := σ.1 71 (6417 + a) / 2 ^ (σ.1 71 (321 + k)).toNat) dX7_canTake_61 (lane_shr' ha2.2.2.2 hk2.2.1) ?_
    refine AW_iconst dX7_canTake_62 ?_
    refine AW_iand (z := σ.1 71 (6417 + a) / 2 ^ (σ.1 71 (321 + k)).toNat % 2) dX7_canTake_63 (lane_and' hd) ?_
    refine AW_iconst dX7_canTake_64 ?_
    refine AW_icmp_ne 72 dX7_canTake_65 (by decide) (by omega) (by omega) (fun h65 => ?_) (fun h65 => ?_)
    · refine AW_iconst dX7_canTake_72 ?_
      refine AW_istore (lv' := [_, _, _, _, _, _, _]) dX7_canTake_73 (by decide) (Nat.le_of_ble_eq_true rfl) rfl ?_
      refine AW_iload dX7_canTake_75 rfl ?_
      refine AW_if_eq 131 dX7_canTake_77 (by decide) (by omega) (fun h77 => ?_) (fun h77 => ?_)
      · refine AW_iconst dX7_canTake_131 ?_
        refine AW_zret dX7_canTake_132 rfl (by first | exact Or.inl rfl | exact Or.inr rfl) ?_
        first
        | (exfalso; omega)
        | exact ⟨_, rfl, rfl, Or.inl ⟨rfl, by simp only [canB, decide_eq_true_eq]; omega⟩⟩
        | exact ⟨_, rfl, rfl, Or.inr ⟨rfl, by simp only [canB, decide_eq_true_eq]; omega⟩⟩
      · refine AW_iload dX7_canTake_80 rfl ?_
        refine AW_if_eq 131 dX7_canTake_82 (by decide) (by omega) (fun h82 => ?_) (fun h82 => ?_)
        · refine AW_iconst dX7_canTake_131 ?_
          refine AW_zret dX7_canTake_132 rfl (by first | exact Or.inl rfl | exact Or.inr rfl) ?_
          first
          | (exfalso; omega)
          | exact ⟨_, rfl, rfl, Or.inl ⟨rfl, by simp only [canB, decide_eq_true_eq]; omega⟩⟩
          | exact ⟨_, rfl, rfl, Or.inr ⟨rfl, by simp only [canB, decide_eq_true_eq]; omega⟩⟩
        · refine AW_iload_n dX7_canTake_85 rfl ?_
          refine AW_aload_n dX7_canTake_86 rfl ?_
          refine AW_get dX7_canTake_87 fX7_7 rfl rfl ?_
          refine AW_sipush dX7_canTake_90 (by decide) ?_
          refine AW_iload_n dX7_canTake_93 rfl ?_
          refine AW_iadd dX7_canTake_94 ?_
          refine AW_ialdN (j := 301 + k) dX7_canTake_95 rfl (Nat.le_of_ble_eq_true rfl) (by omega) (by omega) ?_
          refine AW_icmp_le 131 dX7_canTake_96 (by decide) (by omega) (by omega) (fun h96 => ?_) (fun h96 => ?_)
          · refine AW_iconst dX7_canTake_131 ?_
            refine AW_zret dX7_canTake_132 rfl (by first | exact Or.inl rfl | exact Or.inr rfl) ?_
            first
            | (exfalso; omega)
            | exact ⟨_, rfl, rfl, Or.inl ⟨rfl, by simp only [canB, decide_eq_true_eq]; omega⟩⟩
            | exact ⟨_, rfl, rfl, Or.inr ⟨rfl, by simp only [canB, decide_eq_true_eq]; omega⟩⟩
          · refine AW_iload dX7_canTake_99 rfl ?_
            refine AW_aload_n dX7_canTake_101 rfl ?_
            refine AW_get dX7_canTake_102 fX7_7 rfl rfl ?_
            refine AW_sipush dX7_canTake_105 (by decide) ?_
            refine AW_iload_n dX7_canTake_108 rfl ?_
            refine AW_iadd dX7_canTake_109 ?_
            refine AW_ialdN (j := 6401 + a) dX7_canTake_110 rfl (Nat.le_of_ble_eq_true rfl) (by omega) (by omega) ?_
            refine AW_aload_n dX7_canTake_111 rfl ?_
            refine AW_get dX7_canTake_112 fX7_7 rfl rfl ?_
            refine AW_sipush dX7_canTake_115 (by decide) ?_
            refine AW_iload_n dX7_canTake_118 rfl ?_
            refine AW_iadd dX7_canTake_119 ?_
            refine AW_ialdN (j := 6405 + a) dX7_canTake_120 rfl (Nat.le_of_ble_eq_true rfl) (by omega) (by omega) ?_
            refine AW_cSI3 dX7_canTake_121 kX7_56 (am_fit_b rfl) (Nat.le_of_ble_eq_true rfl) (c_in (by omega) (by omega) (by omega)) (fun z σ' hq => ?_)
            obtain ⟨rfl, ⟨rfl, h121⟩ | ⟨rfl, h121⟩⟩ := hq
            · refine AW_if_eq 131 dX7_canTake_124 (by decide) (by decide) (fun h => absurd h (by decide)) (fun _ => ?_)
              refine AW_iconst dX7_canTake_127 ?_
              refine AW_goto (tgt := 132) dX7_canTake_128 (by decide) ?_
              refine AW_zret dX7_canTake_132 rfl (by first | exact Or.inl rfl | exact Or.inr rfl) ?_
              first
              | (exfalso; omega)
              | exact ⟨_, rfl, rfl, Or.inl ⟨rfl, by simp only [canB, decide_eq_true_eq]; omega⟩⟩
              | exact ⟨_, rfl, rfl, Or.inr ⟨rfl, by simp only [canB, decide_eq_true_eq]; omega⟩⟩
            · refine AW_if_eq 131 dX7_canTake_124 (by decide) (by decide) (fun _ => ?_) (fun h => absurd (by decide) h)
              refine AW_iconst dX7_canTake_131 ?_
              refine AW_zret dX7_canTake_132 rfl (by first | exact Or.inl rfl | exact Or.inr rfl) ?_
              first
              | (exfalso; omega)
              | exact ⟨_, rfl, rfl, Or.inl ⟨rfl, by simp only [canB, decide_eq_true_eq]; omega⟩⟩
              | exact ⟨_, rfl, rfl, Or.inr ⟨rfl, by simp only [canB, decide_eq_true_eq]; omega⟩⟩
    · refine AW_iconst dX7_canTake_68 ?_
      refine AW_goto (tgt := 73) dX7_canTake_69 (by decide) ?_
      refine AW_istore (lv' := [_, _, _, _, _, _, _]) dX7_canTake_73 (by decide) (Nat.le_of_ble_eq_true rfl) rfl ?_
      refine AW_iload dX7_canTake_75 rfl ?_
      refine AW_if_eq 131 dX7_canTake_77 (by decide) (by omega) (fun h77 => ?_) (fun h77 => ?_)
      · refine AW_iconst dX7_canTake_131 ?_
        refine AW_zret dX7_canTake_132 rfl (by first | exact Or.inl rfl | exact Or.inr rfl) ?_
        first
        | (exfalso; omega)
        | exact ⟨_, rfl, rfl, Or.inl ⟨rfl, by simp only [canB, decide_eq_true_eq]; omega⟩⟩
        | exact ⟨_, rfl, rfl, Or.inr ⟨rfl, by simp only [canB, decide_eq_true_eq]; omega⟩⟩
      · refine AW_iload dX7_canTake_80 rfl ?_
        refine AW_if_eq 131 dX7_canTake_82 (by decide) (by omega) (fun h82 => ?_) (fun h82 => ?_)
        · refine AW_iconst dX7_canTake_131 ?_
          refine AW_zret dX7_canTake_132 rfl (by first | exact Or.inl rfl | exact Or.inr rfl) ?_
          first
          | (exfalso; omega)
          | exact ⟨_, rfl, rfl, Or.inl ⟨rfl, by simp only [canB, decide_eq_true_eq]; omega⟩⟩
          | exact ⟨_, rfl, rfl, Or.inr ⟨rfl, by simp only [canB, decide_eq_true_eq]; omega⟩⟩
        · refine AW_iload_n dX7_canTake_85 rfl ?_
          refine AW_aload_n dX7_canTake_86 rfl ?_
          refine AW_get dX7_canTake_87 fX7_7 rfl rfl ?_
          refine AW_sipush dX7_canTake_90 (by decide) ?_
          refine AW_iload_n dX7_canTake_93 rfl ?_
          refine AW_iadd dX7_canTake_94 ?_
          refine AW_ialdN (j := 301 + k) dX7_canTake_95 rfl (Nat.le_of_ble_eq_true rfl) (by omega) (by omega) ?_
          refine AW_icmp_le 131 dX7_canTake_96 (by decide) (by omega) (by omega) (fun h96 => ?_) (fun h96 => ?_)
          · refine AW_iconst dX7_canTake_131 ?_
            refine AW_zret dX7_canTake_132 rfl (by first | exact Or.inl rfl | exact Or.inr rfl) ?_
            first
            | (exfalso; omega)
            | exact ⟨_, rfl, rfl, Or.inl ⟨rfl, by simp only [canB, decide_eq_true_eq]; omega⟩⟩
            | exact ⟨_, rfl, rfl, Or.inr ⟨rfl, by simp only [canB, decide_eq_true_eq]; omega⟩⟩
          · refine AW_iload dX7_canTake_99 rfl ?_
            refine AW_aload_n dX7_canTake_101 rfl ?_
            refine AW_get dX7_canTake_102 fX7_7 rfl rfl ?_
            refine AW_sipush dX7_canTake_105 (by decide) ?_
            refine AW_iload_n dX7_canTake_108 rfl ?_
            refine AW_iadd dX7_canTake_109 ?_
            refine AW_ialdN (j := 6401 + a) dX7_canTake_110 rfl (Nat.le_of_ble_eq_true rfl) (by omega) (by omega) ?_
            refine AW_aload_n dX7_canTake_111 rfl ?_
            refine AW_get dX7_canTake_112 fX7_7 rfl rfl ?_
            refine AW_sipush dX7_canTake_115 (by decide) ?_
            refine AW_iload_n dX7_canTake_118 rfl ?_
            refine AW_iadd dX7_canTake_119 ?_
            refine AW_ialdN (j := 6405 + a) dX7_canTake_120 rfl (Nat.le_of_ble_eq_true rfl) (by omega) (by omega) ?_
            refine AW_cSI3 dX7_canTake_121 kX7_56 (am_fit_b rfl) (Nat.le_of_ble_eq_true rfl) (c_in (by omega) (by omega) (by omega)) (fun z σ' hq => ?_)
            obtain ⟨rfl, ⟨rfl, h121⟩ | ⟨rfl, h121⟩⟩ := hq
            · refine AW_if_eq 131 dX7_canTake_124 (by decide) (by decide) (fun h => absurd h (by decide)) (fun _ => ?_)
              refine AW_iconst dX7_canTake_127 ?_
              refine AW_goto (tgt := 132) dX7_canTake_128 (by decide) ?_
              refine AW_zret dX7_canTake_132 rfl (by first | exact Or.inl rfl | exact Or.inr rfl) ?_
              first
              | (exfalso; omega)
              | exact ⟨_, rfl, rfl, Or.inl ⟨rfl, by simp only [canB, decide_eq_true_eq]; omega⟩⟩
              | exact ⟨_, rfl, rfl, Or.inr ⟨rfl, by simp only [canB, decide_eq_true_eq]; omega⟩⟩
            · refine AW_if_eq 131 dX7_canTake_124 (by decide) (by decide) (fun _ => ?_) (fun h => absurd (by decide) h)
              refine AW_iconst dX7_canTake_131 ?_
              refine AW_zret dX7_canTake_132 rfl (by first | exact Or.inl rfl | exact Or.inr rfl) ?_
              first
              | (exfalso; omega)
              | exact ⟨_, rfl, rfl, Or.inl ⟨rfl, by simp only [canB, decide_eq_true_eq]; omega⟩⟩
              | exact ⟨_, rfl, rfl, Or.inr ⟨rfl, by simp only [canB, decide_eq_true_eq]; omega⟩⟩
