section AMN
variable {T : List am_C} {M : am_M} {pc : Nat} {lv : List (Option am_V)} {st : List am_V} {σ : am_S} {Q : Option am_V → am_S → Prop}
theorem AW_ialdN {a n j : Nat} {i : Int} (hd : decode M.2.1 pc = .ok (.iaload, 1)) (ht : T[a]? = some (.inr (.inl (0, n)))) (hn : n < 2147483648) (hi : i = (j : Int)) (hj : j < n) (k : AW T M (pc + 1) lv (vI (σ.1 a j) :: st) σ Q) : AW T M pc lv (vI i :: vR a :: st) σ Q := by
  subst hi
  exact AW_iald hd ht hn ⟨by omega, by omega⟩ k
theorem AW_zaldN {a n j : Nat} {i : Int} (hd : decode M.2.1 pc = .ok (.baload, 1)) (ht : T[a]? = some (.inr (.inl (1, n)))) (hn : n < 2147483648) (hi : i = (j : Int)) (hj : j < n) (k : AW T M (pc + 1) lv (vI (σ.1 a j) :: st) σ Q) : AW T M pc lv (vI i :: vR a :: st) σ Q := by
  subst hi
  exact AW_zald hd ht hn ⟨by omega, by omega⟩ k
theorem AW_laldN {a n j : Nat} {i : Int} (hd : decode M.2.1 pc = .ok (.laload, 1)) (ht : T[a]? = some (.inr (.inl (2, n)))) (hn : n < 2147483648) (hi : i = (j : Int)) (hj : j < n) (k : AW T M (pc + 1) lv (vL (σ.2 a j) :: st) σ Q) : AW T M pc lv (vI i :: vR a :: st) σ Q := by
  subst hi
  exact AW_lald hd ht hn ⟨by omega, by omega⟩ k
theorem AW_iastN {a n j : Nat} {i x : Int} (hd : decode M.2.1 pc = .ok (.iastore, 1)) (ht : T[a]? = some (.inr (.inl (0, n)))) (hn : n < 2147483648) (hi : i = (j : Int)) (hj : j < n) (k : AW T M (pc + 1) lv st (am_up σ a j x) Q) : AW T M pc lv (vI x :: vI i :: vR a :: st) σ Q := by
  subst hi
  exact AW_iast hd ht hn ⟨by omega, by omega⟩ k
theorem AW_zastN {a n j : Nat} {i x : Int} (hd : decode M.2.1 pc = .ok (.bastore, 1)) (ht : T[a]? = some (.inr (.inl (1, n)))) (hn : n < 2147483648) (hi : i = (j : Int)) (hj : j < n) (hx : x = 0 ∨ x = 1) (k : AW T M (pc + 1) lv st (am_up σ a j x) Q) : AW T M pc lv (vI x :: vI i :: vR a :: st) σ Q := by
  subst hi
  exact AW_zast hd ht hn ⟨by omega, by omega⟩ hx k
theorem AW_lastN {a n j : Nat} {i : Int} {x : Int64} (hd : decode M.2.1 pc = .ok (.lastore, 1)) (ht : T[a]? = some (.inr (.inl (2, n)))) (hn : n < 2147483648) (hi : i = (j : Int)) (hj : j < n) (k : AW T M (pc + 1) lv st (am_upL σ a j x) Q) : AW T M pc lv (vL x :: vI i :: vR a :: st) σ Q := by
  subst hi
  exact AW_last hd ht hn ⟨by omega, by omega⟩ k
end AMN
/-- a yes or no that changes nothing -/
def QB (c : Prop) (σ : am_S) : Option am_V → am_S → Prop := QI (fun z σ' => σ = σ' ∧ ((z = 1 ∧ c) ∨ (z = 0 ∧ ¬ c)))
theorem c_isWithin {T : List am_C} {σ : am_S} {n a b : Int} (hn : -2147483648 ≤ n ∧ n < 2147483648) (ha : -2147483648 ≤ a ∧ a < 2147483648) (hb : -2147483648 ≤ b ∧ b < 2147483648) : Runs T mX6_isWithin [vI n, vI a, vI b] σ (QB (a ≤ n ∧ n ≤ b) σ) := by
  refine Runs.of (by decide) rfl (by simp) (Nat.le_of_ble_eq_true rfl) ?_
  show AW T mX6_isWithin 0 [some (vI n), some (vI a), some (vI b)] [] σ _
  refine AW_iload_n dX6_isWithin_0 rfl ?_
  refine AW_iload_n dX6_isWithin_1 rfl ?_
  refine AW_icmp_lt 14 dX6_isWithin_2 (by decide) (by omega) (by omega) (fun h2 => ?_) (fun h2 => ?_)
  · refine AW_iconst dX6_isWithin_14 ?_
    refine AW_zret dX6_isWithin_15 rfl (by first | exact Or.inl rfl | exact Or.inr rfl) ?_
    exact ⟨_, rfl, rfl, by first | exact Or.inl ⟨rfl, by omega⟩ | exact Or.inr ⟨rfl, by omega⟩⟩
  · refine AW_iload_n dX6_isWithin_5 rfl ?_
    refine AW_iload_n dX6_isWithin_6 rfl ?_
    refine AW_icmp_gt 14 dX6_isWithin_7 (by decide) (by omega) (by omega) (fun h7 => ?_) (fun h7 => ?_)
    · refine AW_iconst dX6_isWithin_14 ?_
      refine AW_zret dX6_isWithin_15 rfl (by first | exact Or.inl rfl | exact Or.inr rfl) ?_
      exact ⟨_, rfl, rfl, by first | exact Or.inl ⟨rfl, by omega⟩ | exact Or.inr ⟨rfl, by omega⟩⟩
    · refine AW_iconst dX6_isWithin_10 ?_
      refine AW_goto (tgt := 15) dX6_isWithin_11 (by decide) ?_
      refine AW_zret dX6_isWithin_15 rfl (by first | exact Or.inl rfl | exact Or.inr rfl) ?_
      exact ⟨_, rfl, rfl, by first | exact Or.inl ⟨rfl, by omega⟩ | exact Or.inr ⟨rfl, by omega⟩⟩
theorem c_in {T : List am_C} {σ : am_S} {n a b : Int} (hn : -2147483648 ≤ n ∧ n < 2147483648) (ha : -2147483648 ≤ a ∧ a < 2147483648) (hb : -2147483648 ≤ b ∧ b < 2147483648) : Runs T mX7_in [vI n, vI a, vI b] σ (QB (a ≤ n ∧ n ≤ b) σ) := by
  refine Runs.of (by decide) rfl (by simp) (Nat.le_of_ble_eq_true rfl) ?_
  show AW T mX7_in 0 [some (vI n), some (vI a), some (vI b)] [] σ _
  refine AW_iload_n dX7_in_0 rfl ?_
  refine AW_iload_n dX7_in_1 rfl ?_
  refine AW_icmp_lt 14 dX7_in_2 (by decide) (by omega) (by omega) (fun h2 => ?_) (fun h2 => ?_)
  · refine AW_iconst dX7_in_14 ?_
    refine AW_zret dX7_in_15 rfl (by first | exact Or.inl rfl | exact Or.inr rfl) ?_
    exact ⟨_, rfl, rfl, by first | exact Or.inl ⟨rfl, by omega⟩ | exact Or.inr ⟨rfl, by omega⟩⟩
  · refine AW_iload_n dX7_in_5 rfl ?_
    refine AW_iload_n dX7_in_6 rfl ?_
    refine AW_icmp_gt 14 dX7_in_7 (by decide) (by omega) (by omega) (fun h7 => ?_) (fun h7 => ?_)
    · refine AW_iconst dX7_in_14 ?_
      refine AW_zret dX7_in_15 rfl (by first | exact Or.inl rfl | exact Or.inr rfl) ?_
      exact ⟨_, rfl, rfl, by first | exact Or.inl ⟨rfl, by omega⟩ | exact Or.inr ⟨rfl, by omega⟩⟩
    · refine AW_iconst dX7_in_10 ?_
      refine AW_goto (tgt := 15) dX7_in_11 (by decide) ?_
      refine AW_zret dX7_in_15 rfl (by first | exact Or.inl rfl | exact Or.inr rfl) ?_
      exact ⟨_, rfl, rfl, by first | exact Or.inl ⟨rfl, by omega⟩ | exact Or.inr ⟨rfl, by omega⟩⟩
theorem c_isTick {T : List am_C} {σ : am_S} {n : Int} (hn : -2147483648 ≤ n ∧ n < 2147483648) : Runs T mX6_isTick [vI n] σ (QB (0 ≤ n ∧ n ≤ 300) σ) := by
  refine Runs.of (by decide) rfl (by simp) (Nat.le_of_ble_eq_true rfl) ?_
  show AW T mX6_isTick 0 [some (vI n)] [] σ _
  refine AW_iload_n dX6_isTick_0 rfl ?_
  refine AW_iconst dX6_isTick_1 ?_
  refine AW_sipush dX6_isTick_2 (by decide) ?_
  refine AW_cSI3 dX6_isTick_5 kX6_49 (am_fit_b rfl) (Nat.le_of_ble_eq_true rfl) (c_isWithin hn (by omega) (by omega)) (fun z σ' hq => ?_)
  obtain ⟨rfl, ⟨rfl, h5⟩ | ⟨rfl, h5⟩⟩ := hq
  · refine AW_zret dX6_isTick_8 rfl (by first | exact Or.inl rfl | exact Or.inr rfl) ?_
    exact ⟨_, rfl, rfl, by first | exact Or.inl ⟨rfl, by omega⟩ | exact Or.inr ⟨rfl, by omega⟩⟩
  · refine AW_zret dX6_isTick_8 rfl (by first | exact Or.inl rfl | exact Or.inr rfl) ?_
    exact ⟨_, rfl, rfl, by first | exact Or.inl ⟨rfl, by omega⟩ | exact Or.inr ⟨rfl, by omega⟩⟩
theorem c_isArm {T : List am_C} {σ : am_S} {n : Int} (hn : -2147483648 ≤ n ∧ n < 2147483648) : Runs T mX6_isArm [vI n] σ (QB (0 ≤ n ∧ n ≤ 3) σ) := by
  refine Runs.of (by decide) rfl (by simp) (Nat.le_of_ble_eq_true rfl) ?_
  show AW T mX6_isArm 0 [some (vI n)] [] σ _
  refine AW_iload_n dX6_isArm_0 rfl ?_
  refine AW_iconst dX6_isArm_1 ?_
  refine AW_iconst dX6_isArm_2 ?_
  refine AW_cSI3 dX6_isArm_3 kX6_49 (am_fit_b rfl) (Nat.le_of_ble_eq_true rfl) (c_isWithin hn (by omega) (by omega)) (fun z σ' hq => ?_)
  obtain ⟨rfl, ⟨rfl, h3⟩ | ⟨rfl, h3⟩⟩ := hq
  · refine AW_zret dX6_isArm_6 rfl (by first | exact Or.inl rfl | exact Or.inr rfl) ?_
    exact ⟨_, rfl, rfl, by first | exact Or.inl ⟨rfl, by omega⟩ | exact Or.inr ⟨rfl, by omega⟩⟩
  · refine AW_zret dX6_isArm_6 rfl (by first | exact Or.inl rfl | exact Or.inr rfl) ?_
    exact ⟨_, rfl, rfl, by first | exact Or.inl ⟨rfl, by omega⟩ | exact Or.inr ⟨rfl, by omega⟩⟩
theorem c_isTick7 {T : List am_C} {σ : am_S} {n : Int} (hn : -2147483648 ≤ n ∧ n < 2147483648) : Runs T mX7_isTick [vI n] σ (QB (0 ≤ n ∧ n ≤ 300) σ) := by
  refine Runs.of (by decide) rfl (by simp) (Nat.le_of_ble_eq_true rfl) ?_
  show AW T mX7_isTick 0 [some (vI n)] [] σ _
  refine AW_iload_n dX7_isTick_0 rfl ?_
  refine AW_iconst dX7_isTick_1 ?_
  refine AW_sipush dX7_isTick_2 (by decide) ?_
  refine AW_cSI3 dX7_isTick_5 kX7_56 (am_fit_b rfl) (Nat.le_of_ble_eq_true rfl) (c_in hn (by omega) (by omega)) (fun z σ' hq => ?_)
  obtain ⟨rfl, ⟨rfl, h5⟩ | ⟨rfl, h5⟩⟩ := hq
  · refine AW_zret dX7_isTick_8 rfl (by first | exact Or.inl rfl | exact Or.inr rfl) ?_
    exact ⟨_, rfl, rfl, by first | exact Or.inl ⟨rfl, by omega⟩ | exact Or.inr ⟨rfl, by omega⟩⟩
  · refine AW_zret dX7_isTick_8 rfl (by first | exact Or.inl rfl | exact Or.inr rfl) ?_
    exact ⟨_, rfl, rfl, by first | exact Or.inl ⟨rfl, by omega⟩ | exact Or.inr ⟨rfl, by omega⟩⟩
theorem c_isArm7 {T : List am_C} {σ : am_S} {n : Int} (hn : -2147483648 ≤ n ∧ n < 2147483648) : Runs T mX7_isArm [vI n] σ (QB (0 ≤ n ∧ n ≤ 3) σ) := by
  refine Runs.of (by decide) rfl (by simp) (Nat.le_of_ble_eq_true rfl) ?_
  show AW T mX7_isArm 0 [some (vI n)] [] σ _
  refine AW_iload_n dX7_isArm_0 rfl ?_
  refine AW_iconst dX7_isArm_1 ?_
  refine AW_iconst dX7_isArm_2 ?_
  refine AW_cSI3 dX7_isArm_3 kX7_56 (am_fit_b rfl) (Nat.le_of_ble_eq_true rfl) (c_in hn (by omega) (by omega)) (fun z σ' hq => ?_)
  obtain ⟨rfl, ⟨rfl, h3⟩ | ⟨rfl, h3⟩⟩ := hq
  · refine AW_zret dX7_isArm_6 rfl (by first | exact Or.inl rfl | exact Or.inr rfl) ?_
    exact ⟨_, rfl, rfl, by first | exact Or.inl ⟨rfl, by omega⟩ | exact Or.inr ⟨rfl, by omega⟩⟩
  · refine AW_zret dX7_isArm_6 rfl (by first | exact Or.inl rfl | exact Or.inr rfl) ?_
    exact ⟨_, rfl, rfl, by first | exact Or.inl ⟨rfl, by omega⟩ | exact Or.inr ⟨rfl, by omega⟩⟩
theorem c_isThing {σ : am_S} {n : Int} (hn : -2147483648 ≤ n ∧ n < 2147483648) (hc : 0 ≤ σ.1 7 0 ∧ σ.1 7 0 ≤ 20) : Runs am_tab mX6_isThing [vR 0, vI n] σ (QB (0 ≤ n ∧ n < σ.1 7 0) σ) := by
  refine Runs.of (by decide) rfl (by simp) (Nat.le_of_ble_eq_true rfl) ?_
  show AW am_tab mX6_isThing 0 [some (vR 0), some (vI n)] [] σ _
  refine AW_iload_n dX6_isThing_0 rfl ?_
  refine AW_iconst dX6_isThing_1 ?_
  refine AW_aload_n dX6_isThing_2 rfl ?_
  refine AW_get dX6_isThing_3 fX6_12 rfl rfl ?_
  refine AW_get dX6_isThing_6 fX6_81 rfl rfl ?_
  refine AW_get dX6_isThing_9 fX6_94 rfl rfl ?_
  refine AW_iconst dX6_isThing_12 ?_
  refine AW_isub dX6_isThing_13 ?_
  refine AW_cSI3 dX6_isThing_14 kX6_49 (am_fit_b rfl) (Nat.le_of_ble_eq_true rfl) (c_isWithin hn (by omega) (by omega)) (fun z σ' hq => ?_)
  obtain ⟨rfl, ⟨rfl, h14⟩ | ⟨rfl, h14⟩⟩ := hq
  · refine AW_zret dX6_isThing_17 rfl (by first | exact Or.inl rfl | exact Or.inr rfl) ?_
    exact ⟨_, rfl, rfl, by first | exact Or.inl ⟨rfl, by omega⟩ | exact Or.inr ⟨rfl, by omega⟩⟩
  · refine AW_zret dX6_isThing_17 rfl (by first | exact Or.inl rfl | exact Or.inr rfl) ?_
    exact ⟨_, rfl, rfl, by first | exact Or.inl ⟨rfl, by omega⟩ | exact Or.inr ⟨rfl, by omega⟩⟩
theorem c_isThing7 {σ : am_S} {n : Int} (hn : -2147483648 ≤ n ∧ n < 2147483648) (hc : 0 ≤ σ.1 71 6423 ∧ σ.1 71 6423 ≤ 20) : Runs am_tab mX7_isThing [vR 70, vI n] σ (QB (0 ≤ n ∧ n < σ.1 71 6423) σ) := by
  refine Runs.of (by decide) rfl (by simp) (Nat.le_of_ble_eq_true rfl) ?_
  show AW am_tab mX7_isThing 0 [some (vR 70), some (vI n)] [] σ _
  refine AW_iload_n dX7_isThing_0 rfl ?_
  refine AW_iconst dX7_isThing_1 ?_
  refine AW_aload_n dX7_isThing_2 rfl ?_
  refine AW_get dX7_isThing_3 fX7_7 rfl rfl ?_
  refine AW_sipush dX7_isThing_6 (by decide) ?_
  refine AW_ialdN (j := 6423) dX7_isThing_9 rfl (Nat.le_of_ble_eq_true rfl) (by omega) (by omega) ?_
  refine AW_iconst dX7_isThing_10 ?_
  refine AW_isub dX7_isThing_11 ?_
  refine AW_cSI3 dX7_isThing_12 kX7_56 (am_fit_b rfl) (Nat.le_of_ble_eq_true rfl) (c_in hn (by omega) (by omega)) (fun z σ' hq => ?_)
  obtain ⟨rfl, ⟨rfl, h12⟩ | ⟨rfl, h12⟩⟩ := hq
  · refine AW_zret dX7_isThing_15 rfl (by first | exact Or.inl rfl | exact Or.inr rfl) ?_
    exact ⟨_, rfl, rfl, by first | exact Or.inl ⟨rfl, by omega⟩ | exact Or.inr ⟨rfl, by omega⟩⟩
  · refine AW_zret dX7_isThing_15 rfl (by first | exact Or.inl rfl | exact Or.inr rfl) ?_
    exact ⟨_, rfl, rfl, by first | exact Or.inl ⟨rfl, by omega⟩ | exact Or.inr ⟨rfl, by omega⟩⟩
