theorem rup_id {X : Row} {j : Nat} : rup X j (X j) = X := by
  funext i
  by_cases h : i = j
  · rw [h, rup_at]
  · rw [rup_ne h]
theorem CS.cgA {σ σ' : am_S} {X X' : Row} (hσ : ∀ a, 2 ≤ a → a < 14 → σ'.1 a = σ.1 a) (h2 : σ'.2 12 = σ.2 12) (hX : ∀ j, j < 6401 ∨ 6421 ≤ j → X' j = X j) (hT : WT X) (hC : CS σ X) (hA : AO σ' X') : CS σ' X' := by
  obtain ⟨c1, c2, c3, c4, c5, c6, c7⟩ := hC
  refine ⟨BO_cg (fun j h1 => hX j (by omega)) ?_, GO_cg (fun j h1 => hX j (by omega)) ?_, TO_cg (fun j h1 h2 => hX j (by omega)) (hX _ (by omega)) hT ?_, hA, SN_cg (fun j h1 h2 => hX j (by omega)) (hX _ (by omega)) hT ?_, ?_, ?_⟩
  · unfold BO
    rw [hσ 3 (by omega) (by omega), hσ 4 (by omega) (by omega), hσ 5 (by omega) (by omega)]
    exact c1
  · unfold GO
    rw [hσ 6 (by omega) (by omega)]
    exact c2
  · unfold TO
    rw [hσ 7 (by omega) (by omega), hσ 8 (by omega) (by omega), hσ 9 (by omega) (by omega), hσ 10 (by omega) (by omega), hσ 11 (by omega) (by omega)]
    exact c3
  · unfold SN sbA
    rw [h2]
    exact c5
  · rw [hσ 2 (by omega) (by omega), hX 6421 (by omega)]
    exact c6
  · rw [hσ 2 (by omega) (by omega), hX 6422 (by omega)]
    exact c7
theorem CS.cgN {σ σ' : am_S} {X X' : Row} (hσ : ∀ a, 3 ≤ a → a < 19 → σ'.1 a = σ.1 a) (h2 : σ'.2 12 = σ.2 12) (hX : ∀ j, j < 6421 ∨ 6423 ≤ j → X' j = X j) (hT : WT X) (hC : CS σ X) (h3 : σ'.1 2 3 = X' 6421) (h4 : σ'.1 2 4 = X' 6422) : CS σ' X' := by
  obtain ⟨c1, c2, c3, c4, c5, c6, c7⟩ := hC
  refine ⟨BO_cg (fun j h1 => hX j (by omega)) ?_, GO_cg (fun j h1 => hX j (by omega)) ?_, TO_cg (fun j h1 h2 => hX j (by omega)) (hX _ (by omega)) hT ?_, AO_cg (fun j h1 h2 => hX j (by omega)) ?_, SN_cg (fun j h1 h2 => hX j (by omega)) (hX _ (by omega)) hT ?_, h3, h4⟩
  · unfold BO
    rw [hσ 3 (by omega) (by omega), hσ 4 (by omega) (by omega), hσ 5 (by omega) (by omega)]
    exact c1
  · unfold GO
    rw [hσ 6 (by omega) (by omega)]
    exact c2
  · unfold TO
    rw [hσ 7 (by omega) (by omega), hσ 8 (by omega) (by omega), hσ 9 (by omega) (by omega), hσ 10 (by omega) (by omega), hσ 11 (by omega) (by omega)]
    exact c3
  · unfold AO
    rw [hσ 14 (by omega) (by omega), hσ 15 (by omega) (by omega), hσ 16 (by omega) (by omega), hσ 17 (by omega) (by omega), hσ 18 (by omega) (by omega)]
    exact c4
  · unfold SN sbA
    rw [h2]
    exact c5
theorem AO_up {σ : am_S} {X : Row} (hA : AO σ X) {a i : Nat} {v : Int} (ha : a < 4) (hi : i < 5) : AO (am_up σ (14 + i) a v) (rup X (6401 + 4 * i + a) v) := by
  intro b hb
  obtain ⟨a1, a2, a3, a4, a5⟩ := hA b hb
  have key : ∀ r, r < 5 → σ.1 (14 + r) b = X (6401 + 4 * r + b) → (am_up σ (14 + i) a v).1 (14 + r) b = rup X (6401 + 4 * i + a) v (6401 + 4 * r + b) := by
    intro r hr e
    show (if 14 + r = 14 + i ∧ b = a then v else σ.1 (14 + r) b) = (if 6401 + 4 * r + b = 6401 + 4 * i + a then v else X (6401 + 4 * r + b))
    by_cases q : 14 + r = 14 + i ∧ b = a
    · rw [if_pos q, if_pos (by omega)]
    · rw [if_neg q, if_neg (by omega)]
      exact e
  exact ⟨key 0 (by omega) a1, key 1 (by omega) a2, key 2 (by omega) a3, key 3 (by omega) a4, key 4 (by omega) a5⟩
theorem WX_arm {X X' : Row} (h : WX X) (hX : ∀ j, j < 6401 ∨ 6421 ≤ j → X' j = X j) (hA : WA X') : WX X' := ⟨WS_cg (fun j hj => hX j (by omega)) h.1, WT_cg (fun j h1 h2 => hX j (by omega)) (hX _ (by omega)) h.2.1, hA, WN_cg (hX _ (by omega)) (hX _ (by omega)) h.2.2.2⟩
theorem WA_reach {X : Row} (hA : WA X) {a : Nat} {fr ti : Int} (ha : a < 4) (hf : 0 ≤ fr ∧ fr ≤ ti ∧ ti ≤ 999) (hh : hitN X a fr ti 4 ≠ true) : WA (rup (rup X (6401 + a) fr) (6405 + a) ti) := by
  have e1 : ∀ b, b < 4 → rup (rup X (6401 + a) fr) (6405 + a) ti (6401 + b) = if b = a then fr else X (6401 + b) := fun b hb => by
    rw [rup_ne (by omega)]
    by_cases q : b = a
    · rw [if_pos q, q, rup_at]
    · rw [if_neg q, rup_ne (by omega)]
  have e2 : ∀ b, b < 4 → rup (rup X (6401 + a) fr) (6405 + a) ti (6405 + b) = if b = a then ti else X (6405 + b) := fun b hb => by
    by_cases q : b = a
    · rw [if_pos q, q, rup_at]
    · rw [if_neg q, rup_ne (by omega), rup_ne (by omega)]
  have e3 : ∀ b, b < 4 → rup (rup X (6401 + a) fr) (6405 + a) ti (6409 + b) = X (6409 + b) ∧ rup (rup X (6401 + a) fr) (6405 + a) ti (6413 + b) = X (6413 + b) ∧ rup (rup X (6401 + a) fr) (6405 + a) ti (6417 + b) = X (6417 + b) := fun b hb => by
    refine ⟨?_, ?_, ?_⟩ <;> rw [rup_ne (by omega), rup_ne (by omega)]
  have hno : ∀ b, b < 4 → b ≠ a → ¬ (X (6401 + b) ≤ ti ∧ fr ≤ X (6405 + b)) := fun b hb hba h => hh (hitN_true (a := b) ⟨by omega, h⟩ 4 hb)
  refine ⟨fun b hb => ?_, fun b c hb hc hbc => ?_⟩
  · obtain ⟨g1, g2, g3⟩ := e3 b hb
    obtain ⟨x1, x2, x3, x4⟩ := hA.1 b hb
    rw [e1 b hb, e2 b hb, g1, g2, g3]
    refine ⟨?_, x2, x3, x4⟩
    by_cases q : b = a
    · simp only [if_pos q]; exact hf
    · simp only [if_neg q]; exact x1
  · rw [e1 b hb, e1 c hc, e2 b hb, e2 c hc]
    by_cases q : b = a
    · have hq : c ≠ a := fun z => hbc (q.trans z.symm)
      simp only [if_pos q, if_neg hq]
      have := hno c hc hq
      omega
    · simp only [if_neg q]
      by_cases q2 : c = a
      · simp only [if_pos q2]
        have := hno b hb q
        omega
      · simp only [if_neg q2]
        exact hA.2 b c hb hc hbc
theorem WA_beat {X : Row} (hA : WA X) {a : Nat} {n off : Int} (ha : a < 4) (hn : 1 ≤ n ∧ n ≤ 20) (ho : 0 ≤ off ∧ off ≤ n - 1) : WA (rup (rup X (6409 + a) n) (6413 + a) off) := by
  refine ⟨fun b hb => ?_, fun b c hb hc hbc => ?_⟩
  · obtain ⟨x1, x2, x3, x4⟩ := hA.1 b hb
    rw [rup_ne (i := 6401 + b) (by omega), rup_ne (i := 6401 + b) (by omega), rup_ne (i := 6405 + b) (by omega), rup_ne (i := 6405 + b) (by omega), rup_ne (i := 6417 + b) (by omega), rup_ne (i := 6417 + b) (by omega), rup_ne (i := 6409 + b) (j := 6413 + a) (by omega)]
    by_cases q : b = a
    · rw [q, rup_at, rup_at]
      rw [q] at x1 x4
      exact ⟨x1, hn, by omega, x4⟩
    · rw [rup_ne (by omega), rup_ne (by omega), rup_ne (by omega)]
      exact ⟨x1, x2, x3, x4⟩
  · have := hA.2 b c hb hc hbc
    rw [rup_ne (by omega), rup_ne (by omega), rup_ne (by omega), rup_ne (by omega), rup_ne (by omega), rup_ne (by omega), rup_ne (by omega), rup_ne (by omega)]
    exact this
theorem WA_lanes {X : Row} (hA : WA X) {a : Nat} {v : Int} (ha : a < 4) (hv : 0 ≤ v ∧ v ≤ 15) : WA (rup X (6417 + a) v) := by
  refine ⟨fun b hb => ?_, fun b c hb hc hbc => ?_⟩
  · obtain ⟨x1, x2, x3, x4⟩ := hA.1 b hb
    rw [rup_ne (i := 6401 + b) (by omega), rup_ne (i := 6405 + b) (by omega), rup_ne (i := 6409 + b) (by omega), rup_ne (i := 6413 + b) (by omega)]
    refine ⟨x1, x2, x3, ?_⟩
    by_cases q : b = a
    · rw [q, rup_at]; exact hv
    · rw [rup_ne (by omega)]; exact x4
  · rw [rup_ne (by omega), rup_ne (by omega), rup_ne (by omega), rup_ne (by omega)]
    exact hA.2 b c hb hc hbc
theorem WX_belt {X : Row} (h : WX X) {t : Nat} {x : Int} (ht : t ≤ 300) (hx : -6 ≤ x ∧ x ≤ 9) (h0 : t = 0 → 0 ≤ x) : WX (rup X t x) := ⟨WS_rup h.1 hx h0, WT_cg (fun j h1 h2 => rup_ne (by omega)) (rup_ne (by omega)) h.2.1, WA_cg (fun j h1 h2 => rup_ne (by omega)) h.2.2.1, WN_cg (rup_ne (by omega)) (rup_ne (by omega)) h.2.2.2⟩
/-- a CHANGE is told -/
theorem CC.belt {σ τ : am_S} {X K : Row} {Y : Nat → Row} {t : Nat} {x : Int} (hC : CC σ X K Y) (ht : t ≤ 300) (hx : -6 ≤ x ∧ x ≤ 9) (h0 : t = 0 → 0 ≤ x) (hE : Eqx [3, 4, 5, 6] σ τ) (hB : BO τ (rup X t x)) (hG : GO τ (rup X t x)) : CP σ (am_up τ 0 6 1) (rup X t x) K Y := by
  refine hC.tell (fun a ha => hE.1 a (by simp only [List.mem_cons, List.not_mem_nil, or_false]; omega)) (fun a _ => by rw [hE.2]) ?_ (WX_belt hC.1 ht hx h0)
  exact CS.cgB (fun a _ _ ha => hE.1 a ha) (by rw [hE.2]) (fun j hj => rup_ne (by omega)) hC.1.2.1 hC.2.1 hB hG
theorem c_gone {σ : am_S} {X K : Row} {Y : Nat → Row} (hC : CC σ X K Y) {tick : Int} (htick : -2147483648 ≤ tick ∧ tick < 2147483648) : Runs am_tab mX6_gone [vR 0, vI tick] σ (QI (fun z σ' => z = goneS X tick ∧ CP σ σ' X K Y)) := by
  refine Runs.of (by decide) rfl (by simp) (Nat.le_of_ble_eq_true rfl) ?_
  show AW am_tab mX6_gone 0 [some (vR 0), some (vI tick)] [] σ _
  have hW := hC.1
  have hS := hW.1
  have hT := hW.2.1
  have hA := hW.2.2.1
  have hN := hW.2.2.2
  have hB := hC.2.1.1
  have hG := hC.2.1.2.1
  have hTO := hC.2.1.2.2.1
  have hAO := hC.2.1.2.2.2.1
  have hSN := hC.2.1.2.2.2.2.1
  have hm := hT.1
  have hc7 := hTO.1
  refine AW_iload_n dX6_gone_0 rfl ?_
  refine AW_cSI1 dX6_gone_1 kX6_45 (am_fit_b rfl) (Nat.le_of_ble_eq_true rfl) (c_isTick htick) (fun z σ' hq => ?_)
  obtain ⟨rfl, ⟨rfl, h1⟩ | ⟨rfl, h1⟩⟩ := hq
  · refine AW_if_eq 22 dX6_gone_4 (by decide) (by decide) (fun h => absurd h (by decide)) (fun _ => ?_)
    refine AW_aload_n dX6_gone_7 rfl ?_
    refine AW_get dX6_gone_8 fX6_12 rfl rfl ?_
    refine AW_get dX6_gone_11 fX6_53 rfl rfl ?_
    refine AW_get dX6_gone_14 fX6_77 rfl rfl ?_
    refine AW_iload_n dX6_gone_17 rfl ?_
    refine AW_ialdN (j := tick.toNat) dX6_gone_18 rfl (Nat.le_of_ble_eq_true rfl) (by omega) (by omega) ?_
    refine AW_goto (tgt := 24) dX6_gone_19 (by decide) ?_
    refine AW_iret dX6_gone_24 rfl ?_
    refine ⟨_, rfl, ?_, hC.rf⟩
    unfold goneS
    first
    | (rw [if_pos (by omega)]; exact hG _ (by omega))
    | rw [if_neg (by omega)]
  · refine AW_if_eq 22 dX6_gone_4 (by decide) (by decide) (fun _ => ?_) (fun h => absurd (by decide) h)
    refine AW_bipush dX6_gone_22 (by decide) ?_
    refine AW_iret dX6_gone_24 rfl ?_
    refine ⟨_, rfl, ?_, hC.rf⟩
    unfold goneS
    first
    | (rw [if_pos (by omega)]; exact hG _ (by omega))
    | rw [if_neg (by omega)]
theorem c_place {σ : am_S} {X K : Row} {Y : Nat → Row} (hC : CC σ X K Y) {thing tick : Int} (hthing : -2147483648 ≤ thing ∧ thing < 2147483648) (htick : -2147483648 ≤ tick ∧ tick < 2147483648) : Runs am_tab mX6_place [vR 0, vI thing, vI tick] σ (QI (fun z σ' => z = placeS X thing tick ∧ CP σ σ' X K Y)) := by
  refine Runs.of (by decide) rfl (by simp) (Nat.le_of_ble_eq_true rfl) ?_
  show AW am_tab mX6_place 0 [some (vR 0), some (vI thing), some (vI tick)] [] σ _
  have hW := hC.1
  have hS := hW.1
  have hT := hW.2.1
  have hA := hW.2.2.1
  have hN := hW.2.2.2
  have hB := hC.2.1.1
  have hG := hC.2.1.2.1
  have hTO := hC.2.1.2.2.1
  have hAO := hC.2.1.2.2.2.1
  have hSN := hC.2.1.2.2.2.2.1
  have hm := hT.1
  have hc7 := hTO.1
  refine AW_aload_n dX6_place_0 rfl ?_
  refine AW_iload_n dX6_place_1 rfl ?_
  refine AW_cVI1 dX6_place_2 kX6_101 (am_fit_b rfl) rfl rfl (Nat.le_of_ble_eq_true rfl) (c_isThing hthing (by omega)) (fun z σ' hq => ?_)
  obtain ⟨rfl, ⟨rfl, h2⟩ | ⟨rfl, h2⟩⟩ := hq
  · refine AW_if_ne 10 dX6_place_5 (by decide) (by decide) (fun _ => ?_) (fun h => absurd (by decide) h)
    refine AW_iload_n dX6_place_10 rfl ?_
    refine AW_cSI1 dX6_place_11 kX6_45 (am_fit_b rfl) (Nat.le_of_ble_eq_true rfl) (c_isTick htick) (fun z σ' hq => ?_)
    obtain ⟨rfl, ⟨rfl, h11⟩ | ⟨rfl, h11⟩⟩ := hq
    · refine AW_if_eq 33 dX6_place_14 (by decide) (by decide) (fun h => absurd h (by decide)) (fun _ => ?_)
      obtain ⟨k, rfl⟩ : ∃ k : Nat, thing = k := ⟨thing.toNat, by omega⟩
      obtain ⟨t, rfl⟩ : ∃ t : Nat, tick = t := ⟨tick.toNat, by omega⟩
      refine AW_aload_n dX6_place_17 rfl ?_
      refine AW_get dX6_place_18 fX6_12 rfl rfl ?_
      refine AW_iload_n dX6_place_21 rfl ?_
      refine AW_iload_n dX6_place_22 rfl ?_
      refine AW_cVI2 dX6_place_23 kX6_144 (am_fit_b rfl) rfl rfl (Nat.le_of_ble_eq_true rfl) (c_placeAt hS hT hTO hG (by omega) (by omega)) (fun z σ' hq => ?_)
      obtain ⟨hz, hs⟩ := hq
      replace hz := hz.symm
      subst hz
      replace hs := hs.symm
      subst hs
      refine AW_sipush dX6_place_26 (by decide) ?_
      refine AW_iadd dX6_place_29 ?_
      refine AW_goto (tgt := 35) dX6_place_30 (by decide) ?_
      refine AW_iret dX6_place_35 rfl ?_
      refine ⟨_, rfl, ?_, hC.rf⟩
      simp only [placeS, Int.toNat_natCast]
      first
      | (rw [if_pos (by omega), if_pos (by omega)]; omega)
      | rw [if_pos (by omega), if_neg (by omega)]
    · refine AW_if_eq 33 dX6_place_14 (by decide) (by decide) (fun _ => ?_) (fun h => absurd (by decide) h)
      refine AW_bipush dX6_place_33 (by decide) ?_
      refine AW_iret dX6_place_35 rfl ?_
      refine ⟨_, rfl, ?_, hC.rf⟩
      simp only [placeS, Int.toNat_natCast]
      first
      | (rw [if_pos (by omega), if_pos (by omega)]; omega)
      | rw [if_pos (by omega), if_neg (by omega)]
  · refine AW_if_ne 10 dX6_place_5 (by decide) (by decide) (fun h => absurd h (by decide)) (fun _ => ?_)
    refine AW_iconst dX6_place_8 ?_
    refine AW_iret dX6_place_9 rfl ?_
    refine ⟨_, rfl, ?_⟩
    simp only [placeS, Int.toNat_natCast]
    rw [if_neg (by omega)]
    exact ⟨rfl, hC.rf⟩
theorem c_can {σ : am_S} {X K : Row} {Y : Nat → Row} (hC : CC σ X K Y) {arm thing tick : Int} (harm : -2147483648 ≤ arm ∧ arm < 2147483648) (hthing : -2147483648 ≤ thing ∧ thing < 2147483648) (htick : -2147483648 ≤ tick ∧ tick < 2147483648) : Runs am_tab mX6_can [vR 0, vI arm, vI thing, vI tick] σ (QI (fun z σ' => z = canS X arm thing tick ∧ CP σ σ' X K Y)) := by
  refine Runs.of (by decide) rfl (by simp) (Nat.le_of_ble_eq_true rfl) ?_
  show AW am_tab mX6_can 0 [some (vR 0), some (vI arm), some (vI thing), some (vI tick)] [] σ _
  have hW := hC.1
  have hS := hW.1
  have hT := hW.2.1
  have hA := hW.2.2.1
  have hN := hW.2.2.2
  have hB := hC.2.1.1
  have hG := hC.2.1.2.1
  have hTO := hC.2.1.2.2.1
  have hAO := hC.2.1.2.2.2.1
  have hSN := hC.2.1.2.2.2.2.1
  have hm := hT.1
  have hc7 := hTO.1
  refine AW_iload_n dX6_can_0 rfl ?_
  refine AW_cSI1 dX6_can_1 kX6_148 (am_fit_b rfl) (Nat.le_of_ble_eq_true rfl) (c_isArm harm) (fun z σ' hq => ?_)
  obtain ⟨rfl, ⟨rfl, h1⟩ | ⟨rfl, h1⟩⟩ := hq
  · refine AW_if_eq 15 dX6_can_4 (by decide) (by decide) (fun h => absurd h (by decide)) (fun _ => ?_)
    refine AW_aload_n dX6_can_7 rfl ?_
    refine AW_iload_n dX6_can_8 rfl ?_
    refine AW_cVI1 dX6_can_9 kX6_101 (am_fit_b rfl) rfl rfl (Nat.le_of_ble_eq_true rfl) (c_isThing hthing (by omega)) (fun z σ' hq => ?_)
    obtain ⟨rfl, ⟨rfl, h9⟩ | ⟨rfl, h9⟩⟩ := hq
    · refine AW_if_ne 17 dX6_can_12 (by decide) (by decide) (fun _ => ?_) (fun h => absurd (by decide) h)
      refine AW_iload_n dX6_can_17 rfl ?_
      refine AW_cSI1 dX6_can_18 kX6_45 (am_fit_b rfl) (Nat.le_of_ble_eq_true rfl) (c_isTick htick) (fun z σ' hq => ?_)
      obtain ⟨rfl, ⟨rfl, h18⟩ | ⟨rfl, h18⟩⟩ := hq
      · refine AW_if_ne 27 dX6_can_21 (by decide) (by decide) (fun _ => ?_) (fun h => absurd (by decide) h)
        obtain ⟨a, rfl⟩ : ∃ a : Nat, arm = a := ⟨arm.toNat, by omega⟩
        obtain ⟨k, rfl⟩ : ∃ k : Nat, thing = k := ⟨thing.toNat, by omega⟩
        obtain ⟨t, rfl⟩ : ∃ t : Nat, tick = t := ⟨tick.toNat, by omega⟩
        refine AW_aload_n dX6_can_27 rfl ?_
        refine AW_get dX6_can_28 fX6_12 rfl rfl ?_
        refine AW_iload_n dX6_can_31 rfl ?_
        refine AW_iload_n dX6_can_32 rfl ?_
        refine AW_iload_n dX6_can_33 rfl ?_
        refine AW_cVI3 dX6_can_34 kX6_185 (am_fit_b rfl) rfl rfl (Nat.le_of_ble_eq_true rfl) (c_canTake hS hT hTO hG hAO hA (by omega) (by omega) (by omega)) (fun z σ' hq => ?_)
        obtain ⟨rfl, ⟨rfl, h34⟩ | ⟨rfl, h34⟩⟩ := hq
        · refine AW_if_eq 44 dX6_can_37 (by decide) (by decide) (fun h => absurd h (by decide)) (fun _ => ?_)
          refine AW_iconst dX6_can_40 ?_
          refine AW_goto (tgt := 45) dX6_can_41 (by decide) ?_
          refine AW_iret dX6_can_45 rfl ?_
          refine ⟨_, rfl, ?_, hC.rf⟩
          simp only [canS, Int.toNat_natCast]
          rw [if_pos (by omega), if_pos (by omega)]
          first
          | rw [if_pos h34]
          | rw [if_neg h34]
        · refine AW_if_eq 44 dX6_can_37 (by decide) (by decide) (fun _ => ?_) (fun h => absurd (by decide) h)
          refine AW_iconst dX6_can_44 ?_
          refine AW_iret dX6_can_45 rfl ?_
          refine ⟨_, rfl, ?_, hC.rf⟩
          simp only [canS, Int.toNat_natCast]
          rw [if_pos (by omega), if_pos (by omega)]
          first
          | rw [if_pos h34]
          | rw [if_neg h34]
      · refine AW_if_ne 27 dX6_can_21 (by decide) (by decide) (fun h => absurd h (by decide)) (fun _ => ?_)
        refine AW_bipush dX6_can_24 (by decide) ?_
        refine AW_iret dX6_can_26 rfl ?_
        refine ⟨_, rfl, ?_⟩
        simp only [canS, Int.toNat_natCast]
        rw [if_pos (by omega), if_neg (by omega)]
        exact ⟨rfl, hC.rf⟩
    · refine AW_if_ne 17 dX6_can_12 (by decide) (by decide) (fun h => absurd h (by decide)) (fun _ => ?_)
      refine AW_iconst dX6_can_15 ?_
      refine AW_iret dX6_can_16 rfl ?_
      refine ⟨_, rfl, ?_⟩
      simp only [canS, Int.toNat_natCast]
      rw [if_neg (by omega)]
      exact ⟨rfl, hC.rf⟩
  · refine AW_if_eq 15 dX6_can_4 (by decide) (by decide) (fun _ => ?_) (fun h => absurd (by decide) h)
    refine AW_iconst dX6_can_15 ?_
    refine AW_iret dX6_can_16 rfl ?_
    refine ⟨_, rfl, ?_⟩
    simp only [canS, Int.toNat_natCast]
    rw [if_neg (by omega)]
    exact ⟨rfl, hC.rf⟩
theorem l_speed {σ : am_S} {X K : Row} {Y : Nat → Row} (hC : CC σ X K Y) {t : Nat} {n : Int} (ht : t ≤ 300) (hn : 0 ≤ n ∧ n ≤ 9) (hfull : t = 0 ∨ (∃ i : Nat, (i : Int) < σ.1 3 1 ∧ σ.1 4 i = (t : Nat)) ∨ σ.1 3 1 < 8) (hnf : ¬ (X t < 0 ∧ chg X 300 = 8)) : AW am_tab mX6_speed 52 [some (vR 0), some (vI (t : Nat)), some (vI n), some (vR 3), none] [] σ (QI (fun z σ' => z = (speedS X t n).1 ∧ CP σ σ' (speedS X t n).2 K Y)) := by
  have hB := hC.2.1.1
  refine AW_aload_n dX6_speed_52 rfl ?_
  refine AW_iload_n dX6_speed_53 rfl ?_
  refine AW_cVI1 dX6_speed_54 kX6_66 (am_fit_b rfl) rfl rfl (Nat.le_of_ble_eq_true rfl) (c_speedAt hB ht) (fun z σ' hq => ?_)
  obtain ⟨hz, hs⟩ := hq
  replace hz := hz.symm
  subst hz
  replace hs := hs.symm
  subst hs
  refine AW_istore (lv' := [_, _, _, _, _]) dX6_speed_57 (by decide) (Nat.le_of_ble_eq_true rfl) rfl ?_
  refine AW_aload_n dX6_speed_59 rfl ?_
  refine AW_iload_n dX6_speed_60 rfl ?_
  refine AW_iload_n dX6_speed_61 rfl ?_
  refine AW_cVV2 dX6_speed_62 kX6_69 (am_fit_b rfl) rfl rfl (Nat.le_of_ble_eq_true rfl) (c_tell hB ht hn hfull) (fun σ' hq2 => ?_)
  obtain ⟨hE, hB2, hG2⟩ := hq2
  refine AW_aload_n dX6_speed_65 rfl ?_
  refine AW_iconst dX6_speed_66 ?_
  refine AW_put dX6_speed_67 pX6_41 rfl rfl rfl rfl ?_
  refine AW_iload dX6_speed_70 rfl ?_
  refine AW_iret dX6_speed_72 rfl ?_
  refine ⟨_, rfl, ?_⟩
  simp only [speedS, Int.toNat_natCast]
  rw [if_pos (by omega), if_neg hnf]
  exact ⟨rfl, hC.belt ht (by omega) (by omega) hE hB2 hG2⟩
theorem c_speed {σ : am_S} {X K : Row} {Y : Nat → Row} (hC : CC σ X K Y) {tick n : Int} (htick : -2147483648 ≤ tick ∧ tick < 2147483648) (hn : -2147483648 ≤ n ∧ n < 2147483648) : Runs am_tab mX6_speed [vR 0, vI tick, vI n] σ (QI (fun z σ' => z = (speedS X tick n).1 ∧ CP σ σ' (speedS X tick n).2 K Y)) := by
  refine Runs.of (by decide) rfl (by simp) (Nat.le_of_ble_eq_true rfl) ?_
  show AW am_tab mX6_speed 0 [some (vR 0), some (vI tick), some (vI n), none, none] [] σ _
  have hW := hC.1
  have hS := hW.1
  have hT := hW.2.1
  have hA := hW.2.2.1
  have hN := hW.2.2.2
  have hB := hC.2.1.1
  have hG := hC.2.1.2.1
  have hTO := hC.2.1.2.2.1
  have hAO := hC.2.1.2.2.2.1
  have hSN := hC.2.1.2.2.2.2.1
  have hm := hT.1
  have hc7 := hTO.1
  refine AW_iload_n dX6_speed_0 rfl ?_
  refine AW_cSI1 dX6_speed_1 kX6_45 (am_fit_b rfl) (Nat.le_of_ble_eq_true rfl) (c_isTick htick) (fun z σ' hq => ?_)
  obtain ⟨rfl, ⟨rfl, h1⟩ | ⟨rfl, h1⟩⟩ := hq
  · refine AW_if_eq 17 dX6_speed_4 (by decide) (by decide) (fun h => absurd h (by decide)) (fun _ => ?_)
    refine AW_iload_n dX6_speed_7 rfl ?_
    refine AW_iconst dX6_speed_8 ?_
    refine AW_bipush dX6_speed_9 (by decide) ?_
    refine AW_cSI3 dX6_speed_11 kX6_49 (am_fit_b rfl) (Nat.le_of_ble_eq_true rfl) (c_isWithin hn (by omega) (by omega)) (fun z σ' hq => ?_)
    obtain ⟨rfl, ⟨rfl, h11⟩ | ⟨rfl, h11⟩⟩ := hq
    · refine AW_if_ne 20 dX6_speed_14 (by decide) (by decide) (fun _ => ?_) (fun h => absurd (by decide) h)
      obtain ⟨t, rfl⟩ : ∃ t : Nat, tick = t := ⟨tick.toNat, by omega⟩
      refine AW_aload_n dX6_speed_20 rfl ?_
      refine AW_get dX6_speed_21 fX6_12 rfl rfl ?_
      refine AW_get dX6_speed_24 fX6_53 rfl rfl ?_
      refine AW_astore_n (i := 3) (lv' := [_, _, _, _, _]) dX6_speed_27 rfl (by decide) (Nat.le_of_ble_eq_true rfl) rfl ?_
      refine AW_iload_n dX6_speed_28 rfl ?_
      refine AW_if_eq 52 dX6_speed_29 (by decide) (by omega) (fun h29 => ?_) (fun h29 => ?_)
      · have h0 : t = 0 := by omega
        exact l_speed hC (by omega) (by omega) (Or.inl h0) (fun h => by subst h0; have := hS.1; omega)
      · refine AW_aload_n dX6_speed_32 rfl ?_
        refine AW_iload_n dX6_speed_33 rfl ?_
        refine AW_cVI1 dX6_speed_34 kX6_57 (am_fit_b rfl) rfl rfl (Nat.le_of_ble_eq_true rfl) (c_changeAt hB (by omega)) (fun z σ' hq2 => ?_)
        obtain ⟨hs, hz⟩ := hq2
        subst hs
        rcases hz with ⟨i, rfl, hi, hti⟩ | ⟨rfl, hno⟩
        · have hX0 : 0 ≤ X t := by
            have h3 := hB.2.2.2.2.2.1 i hi
            have h4 := (hB.2.2.1 i (by have := hB.2.1; omega)).2
            rw [hti, Int.toNat_natCast] at h3
            omega
          have hbc := hB.2.1
          refine AW_if_ge 52 dX6_speed_37 (by decide) (by omega) (fun h37 => ?_) (fun h37 => ?_)
          · exact l_speed hC (by omega) (by omega) (Or.inr (Or.inl ⟨i, hi, hti⟩)) (fun h => by omega)
          · exfalso
            omega
        · have hXn : X t < 0 := by
            rcases Int.lt_or_le (X t) 0 with h | h
            · exact h
            · obtain ⟨i, h1, h2⟩ := hB.2.2.2.2.2.2 t (by omega) (by omega) h
              exact absurd h2 (hno i h1)
          have hch := belt_chg hB
          refine AW_if_ge 52 dX6_speed_37 (by decide) (by omega) (fun h37 => ?_) (fun h37 => ?_)
          · first
            | exact l_speed hC (by omega) (by omega) (Or.inr (Or.inr (by omega))) (fun h => by have hb := hB.2.1; omega)
            | (exfalso; omega)
          · have hb := hB.2.1
            refine AW_aload_n dX6_speed_40 rfl ?_
            refine AW_get dX6_speed_41 fX6_63 rfl rfl ?_
            refine AW_bipush dX6_speed_44 (by decide) ?_
            refine AW_icmp_lt 52 dX6_speed_46 (by decide) (by omega) (by omega) (fun h46 => ?_) (fun h46 => ?_)
            · first
              | exact l_speed hC (by omega) (by omega) (Or.inr (Or.inr (by omega))) (fun h => by have hb := hB.2.1; omega)
              | (exfalso; omega)
            · refine AW_bipush dX6_speed_49 (by decide) ?_
              refine AW_iret dX6_speed_51 rfl ?_
              refine ⟨_, rfl, ?_⟩
              simp only [speedS, Int.toNat_natCast]
              rw [if_pos (by omega), if_pos ⟨hXn, by omega⟩]
              exact ⟨rfl, hC.rf⟩
    · refine AW_if_ne 20 dX6_speed_14 (by decide) (by decide) (fun h => absurd h (by decide)) (fun _ => ?_)
      refine AW_bipush dX6_speed_17 (by decide) ?_
      refine AW_iret dX6_speed_19 rfl ?_
      refine ⟨_, rfl, ?_⟩
      simp only [speedS, Int.toNat_natCast]
      rw [if_neg (by omega)]
      exact ⟨rfl, hC.rf⟩
  · refine AW_if_eq 17 dX6_speed_4 (by decide) (by decide) (fun _ => ?_) (fun h => absurd (by decide) h)
    refine AW_bipush dX6_speed_17 (by decide) ?_
    refine AW_iret dX6_speed_19 rfl ?_
    refine ⟨_, rfl, ?_⟩
    simp only [speedS, Int.toNat_natCast]
    rw [if_neg (by omega)]
    exact ⟨rfl, hC.rf⟩
theorem c_level {σ : am_S} {X K : Row} {Y : Nat → Row} (hC : CC σ X K Y) {tick : Int} (htick : -2147483648 ≤ tick ∧ tick < 2147483648) : Runs am_tab mX6_level [vR 0, vI tick] σ (QI (fun z σ' => z = (levelS X tick).1 ∧ CP σ σ' (levelS X tick).2 K Y)) := by
  refine Runs.of (by decide) rfl (by simp) (Nat.le_of_ble_eq_true rfl) ?_
  show AW am_tab mX6_level 0 [some (vR 0), some (vI tick), none] [] σ _
  have hW := hC.1
  have hS := hW.1
  have hT := hW.2.1
  have hA := hW.2.2.1
  have hN := hW.2.2.2
  have hB := hC.2.1.1
  have hG := hC.2.1.2.1
  have hTO := hC.2.1.2.2.1
  have hAO := hC.2.1.2.2.2.1
  have hSN := hC.2.1.2.2.2.2.1
  have hm := hT.1
  have hc7 := hTO.1
  refine AW_iload_n dX6_level_0 rfl ?_
  refine AW_iconst dX6_level_1 ?_
  refine AW_sipush dX6_level_2 (by decide) ?_
  refine AW_cSI3 dX6_level_5 kX6_49 (am_fit_b rfl) (Nat.le_of_ble_eq_true rfl) (c_isWithin htick (by omega) (by omega)) (fun z σ' hq => ?_)
  obtain ⟨rfl, ⟨rfl, h5⟩ | ⟨rfl, h5⟩⟩ := hq
  · refine AW_if_ne 14 dX6_level_8 (by decide) (by decide) (fun _ => ?_) (fun h => absurd (by decide) h)
    obtain ⟨t, rfl⟩ : ∃ t : Nat, tick = t := ⟨tick.toNat, by omega⟩
    refine AW_aload_n dX6_level_14 rfl ?_
    refine AW_get dX6_level_15 fX6_12 rfl rfl ?_
    refine AW_get dX6_level_18 fX6_53 rfl rfl ?_
    refine AW_iload_n dX6_level_21 rfl ?_
    refine AW_cVI1 dX6_level_22 kX6_57 (am_fit_b rfl) rfl rfl (Nat.le_of_ble_eq_true rfl) (c_changeAt hB (by omega)) (fun z σ' hq2 => ?_)
    obtain ⟨hs, hz⟩ := hq2
    subst hs
    rcases hz with ⟨i, rfl, hi, hti⟩ | ⟨rfl, hno⟩
    · have hX0 : 0 ≤ X t := by
        have h3 := hB.2.2.2.2.2.1 i hi
        have h4 := (hB.2.2.1 i (by have := hB.2.1; omega)).2
        rw [hti, Int.toNat_natCast] at h3
        omega
      have hbc := hB.2.1
      refine AW_istore_n (i := 2) (lv' := [_, _, _]) dX6_level_25 rfl (by decide) (Nat.le_of_ble_eq_true rfl) rfl ?_
      refine AW_iload_n dX6_level_26 rfl ?_
      refine AW_if_ge 33 dX6_level_27 (by decide) (by omega) (fun h27 => ?_) (fun h27 => ?_)
      · refine AW_aload_n dX6_level_33 rfl ?_
        refine AW_get dX6_level_34 fX6_12 rfl rfl ?_
        refine AW_get dX6_level_37 fX6_53 rfl rfl ?_
        refine AW_iload_n dX6_level_40 rfl ?_
        refine AW_cVV1 dX6_level_41 kX6_73 (am_fit_b rfl) rfl rfl (Nat.le_of_ble_eq_true rfl) (c_forget (c := (σ.1 3 1).toNat) (t := t) hB (by omega) (by omega) hti) (fun σ' hq3 => ?_)
        obtain ⟨hE, hB2, hG2, h31⟩ := hq3
        refine AW_aload_n dX6_level_44 rfl ?_
        refine AW_iconst dX6_level_45 ?_
        refine AW_put dX6_level_46 pX6_41 rfl rfl rfl rfl ?_
        refine AW_aload_n dX6_level_49 rfl ?_
        refine AW_get dX6_level_50 fX6_12 rfl rfl ?_
        refine AW_get dX6_level_53 fX6_53 rfl rfl ?_
        refine AW_get dX6_level_56 fX6_63 rfl rfl ?_
        refine AW_iret dX6_level_59 rfl ?_
        have hcp := hC.belt (x := -6) (by omega) (by omega) (by omega) hE hB2 hG2
        refine ⟨_, rfl, ?_⟩
        simp only [levelS, Int.toNat_natCast]
        rw [if_pos (by omega), if_neg (by omega)]
        exact ⟨by rw [am_up_other (by decide)]; exact belt_chg hB2, hcp⟩
      · exfalso
        omega
    · have hXn : X t < 0 := by
        rcases Int.lt_or_le (X t) 0 with h | h
        · exact h
        · obtain ⟨i, h1, h2⟩ := hB.2.2.2.2.2.2 t (by omega) (by omega) h
          exact absurd h2 (hno i h1)
      have hch := belt_chg hB
      refine AW_istore_n (i := 2) (lv' := [_, _, _]) dX6_level_25 rfl (by decide) (Nat.le_of_ble_eq_true rfl) rfl ?_
      refine AW_iload_n dX6_level_26 rfl ?_
      refine AW_if_ge 33 dX6_level_27 (by decide) (by omega) (fun h27 => ?_) (fun h27 => ?_)
      · exfalso
        omega
      · refine AW_bipush dX6_level_30 (by decide) ?_
        refine AW_iret dX6_level_32 rfl ?_
        refine ⟨_, rfl, ?_⟩
        simp only [levelS, Int.toNat_natCast]
        rw [if_pos (by omega), if_pos hXn]
        exact ⟨rfl, hC.rf⟩
  · refine AW_if_ne 14 dX6_level_8 (by decide) (by decide) (fun h => absurd h (by decide)) (fun _ => ?_)
    refine AW_bipush dX6_level_11 (by decide) ?_
    refine AW_iret dX6_level_13 rfl ?_
    refine ⟨_, rfl, ?_⟩
    simp only [levelS, Int.toNat_natCast]
    rw [if_neg (by omega)]
    exact ⟨rfl, hC.rf⟩
theorem c_drop {σ : am_S} {X K : Row} {Y : Nat → Row} (hC : CC σ X K Y) {thing : Int} (hthing : -2147483648 ≤ thing ∧ thing < 2147483648) : Runs am_tab mX6_drop [vR 0, vI thing] σ (QI (fun z σ' => z = (dropS X thing).1 ∧ CP σ σ' (dropS X thing).2 K Y)) := by
  refine Runs.of (by decide) rfl (by simp) (Nat.le_of_ble_eq_true rfl) ?_
  show AW am_tab mX6_drop 0 [some (vR 0), some (vI thing)] [] σ _
  have hW := hC.1
  have hS := hW.1
  have hT := hW.2.1
  have hA := hW.2.2.1
  have hN := hW.2.2.2
  have hB := hC.2.1.1
  have hG := hC.2.1.2.1
  have hTO := hC.2.1.2.2.1
  have hAO := hC.2.1.2.2.2.1
  have hSN := hC.2.1.2.2.2.2.1
  have hm := hT.1
  have hc7 := hTO.1
  refine AW_aload_n dX6_drop_0 rfl ?_
  refine AW_iload_n dX6_drop_1 rfl ?_
  refine AW_cVI1 dX6_drop_2 kX6_101 (am_fit_b rfl) rfl rfl (Nat.le_of_ble_eq_true rfl) (c_isThing hthing (by omega)) (fun z σ' hq => ?_)
  obtain ⟨rfl, ⟨rfl, h2⟩ | ⟨rfl, h2⟩⟩ := hq
  · refine AW_if_ne 10 dX6_drop_5 (by decide) (by decide) (fun _ => ?_) (fun h => absurd (by decide) h)
    obtain ⟨d, rfl⟩ : ∃ d : Nat, thing = d := ⟨thing.toNat, by omega⟩
    obtain ⟨n, hmany⟩ : ∃ n : Nat, X 6423 = n := ⟨(X 6423).toNat, by omega⟩
    refine AW_aload_n dX6_drop_10 rfl ?_
    refine AW_get dX6_drop_11 fX6_12 rfl rfl ?_
    refine AW_get dX6_drop_14 fX6_81 rfl rfl ?_
    refine AW_iload_n dX6_drop_17 rfl ?_
    refine AW_cVV1 dX6_drop_18 kX6_104 (am_fit_b rfl) rfl rfl (Nat.le_of_ble_eq_true rfl) (c_remove (n := n) (d := d) (by omega) (by omega) (by omega)) (fun σ' hq2 => ?_)
    replace hq2 := hq2.symm
    subst hq2
    refine AW_aload_n dX6_drop_21 rfl ?_
    refine AW_iconst dX6_drop_22 ?_
    refine AW_put dX6_drop_23 pX6_41 rfl rfl rfl rfl ?_
    refine AW_aload_n dX6_drop_26 rfl ?_
    refine AW_get dX6_drop_27 fX6_12 rfl rfl ?_
    refine AW_get dX6_drop_30 fX6_81 rfl rfl ?_
    refine AW_get dX6_drop_33 fX6_94 rfl rfl ?_
    refine AW_iret dX6_drop_36 rfl ?_
    refine ⟨_, rfl, ?_⟩
    simp only [dropS, Int.toNat_natCast]
    rw [if_pos (by omega), hmany, show ((n : Int) - 1).toNat = n - 1 by omega]
    refine ⟨by rw [am_up_other (by decide)]; exact rmS_7, ?_⟩
    exact hC.tell (fun a ha => rmS_off (by simp only [List.mem_cons, List.not_mem_nil, or_false]; omega)) (fun a ha => rmS_off2 ha) (CS_drop hW hC.2.1 hmany (by omega)) (WX_drop hW hmany (by omega))
  · refine AW_if_ne 10 dX6_drop_5 (by decide) (by decide) (fun h => absurd h (by decide)) (fun _ => ?_)
    refine AW_iconst dX6_drop_8 ?_
    refine AW_iret dX6_drop_9 rfl ?_
    refine ⟨_, rfl, ?_⟩
    simp only [dropS, Int.toNat_natCast]
    rw [if_neg (by omega)]
    exact ⟨rfl, hC.rf⟩
theorem c_reach {σ : am_S} {X K : Row} {Y : Nat → Row} (hC : CC σ X K Y) {arm fr ti : Int} (harm : -2147483648 ≤ arm ∧ arm < 2147483648) (hfr : -2147483648 ≤ fr ∧ fr < 2147483648) (hti : -2147483648 ≤ ti ∧ ti < 2147483648) : Runs am_tab mX6_reach [vR 0, vI arm, vI fr, vI ti] σ (QI (fun z σ' => z = (reachS X arm fr ti).1 ∧ CP σ σ' (reachS X arm fr ti).2 K Y)) := by
  refine Runs.of (by decide) rfl (by simp) (Nat.le_of_ble_eq_true rfl) ?_
  show AW am_tab mX6_reach 0 [some (vR 0), some (vI arm), some (vI fr), some (vI ti)] [] σ _
  have hW := hC.1
  have hS := hW.1
  have hT := hW.2.1
  have hA := hW.2.2.1
  have hN := hW.2.2.2
  have hB := hC.2.1.1
  have hG := hC.2.1.2.1
  have hTO := hC.2.1.2.2.1
  have hAO := hC.2.1.2.2.2.1
  have hSN := hC.2.1.2.2.2.2.1
  have hm := hT.1
  have hc7 := hTO.1
  refine AW_iload_n dX6_reach_0 rfl ?_
  refine AW_cSI1 dX6_reach_1 kX6_148 (am_fit_b rfl) (Nat.le_of_ble_eq_true rfl) (c_isArm harm) (fun z σ' hq => ?_)
  obtain ⟨rfl, ⟨rfl, h1⟩ | ⟨rfl, h1⟩⟩ := hq
  · refine AW_if_ne 9 dX6_reach_4 (by decide) (by decide) (fun _ => ?_) (fun h => absurd (by decide) h)
    refine AW_iload_n dX6_reach_9 rfl ?_
    refine AW_iconst dX6_reach_10 ?_
    refine AW_sipush dX6_reach_11 (by decide) ?_
    refine AW_cSI3 dX6_reach_14 kX6_49 (am_fit_b rfl) (Nat.le_of_ble_eq_true rfl) (c_isWithin hfr (by omega) (by omega)) (fun z σ' hq => ?_)
    obtain ⟨rfl, ⟨rfl, h14⟩ | ⟨rfl, h14⟩⟩ := hq
    · refine AW_if_eq 31 dX6_reach_17 (by decide) (by decide) (fun h => absurd h (by decide)) (fun _ => ?_)
      refine AW_iload_n dX6_reach_20 rfl ?_
      refine AW_iload_n dX6_reach_21 rfl ?_
      refine AW_sipush dX6_reach_22 (by decide) ?_
      refine AW_cSI3 dX6_reach_25 kX6_49 (am_fit_b rfl) (Nat.le_of_ble_eq_true rfl) (c_isWithin hti hfr (by omega)) (fun z σ' hq => ?_)
      obtain ⟨rfl, ⟨rfl, h25⟩ | ⟨rfl, h25⟩⟩ := hq
      · refine AW_if_ne 34 dX6_reach_28 (by decide) (by decide) (fun _ => ?_) (fun h => absurd (by decide) h)
        obtain ⟨a, rfl⟩ : ∃ a : Nat, arm = a := ⟨arm.toNat, by omega⟩
        refine AW_aload_n dX6_reach_34 rfl ?_
        refine AW_get dX6_reach_35 fX6_12 rfl rfl ?_
        refine AW_get dX6_reach_38 fX6_151 rfl rfl ?_
        refine AW_iload_n dX6_reach_41 rfl ?_
        refine AW_iload_n dX6_reach_42 rfl ?_
        refine AW_iload_n dX6_reach_43 rfl ?_
        refine AW_cVI3 dX6_reach_44 kX6_155 (am_fit_b rfl) rfl rfl (Nat.le_of_ble_eq_true rfl) (c_othersReach hAO hA (by omega) hfr hti) (fun z σ' hq => ?_)
        obtain ⟨rfl, ⟨rfl, h44⟩ | ⟨rfl, h44⟩⟩ := hq
        · refine AW_if_eq 53 dX6_reach_47 (by decide) (by decide) (fun h => absurd h (by decide)) (fun _ => ?_)
          refine AW_bipush dX6_reach_50 (by decide) ?_
          refine AW_iret dX6_reach_52 rfl ?_
          refine ⟨_, rfl, ?_⟩
          simp only [reachS, Int.toNat_natCast]
          rw [if_pos (by omega), if_pos (by omega), if_pos h44]
          exact ⟨rfl, hC.rf⟩
        · refine AW_if_eq 53 dX6_reach_47 (by decide) (by decide) (fun _ => ?_) (fun h => absurd (by decide) h)
          refine AW_aload_n dX6_reach_53 rfl ?_
          refine AW_get dX6_reach_54 fX6_12 rfl rfl ?_
          refine AW_get dX6_reach_57 fX6_151 rfl rfl ?_
          refine AW_get dX6_reach_60 fX6_160 rfl rfl ?_
          refine AW_iload_n dX6_reach_63 rfl ?_
          refine AW_iload_n dX6_reach_64 rfl ?_
          refine AW_iastN (j := a) dX6_reach_65 rfl (Nat.le_of_ble_eq_true rfl) (by omega) (by omega) ?_
          refine AW_aload_n dX6_reach_66 rfl ?_
          refine AW_get dX6_reach_67 fX6_12 rfl rfl ?_
          refine AW_get dX6_reach_70 fX6_151 rfl rfl ?_
          refine AW_get dX6_reach_73 fX6_163 rfl rfl ?_
          refine AW_iload_n dX6_reach_76 rfl ?_
          refine AW_iload_n dX6_reach_77 rfl ?_
          refine AW_iastN (j := a) dX6_reach_78 rfl (Nat.le_of_ble_eq_true rfl) (by omega) (by omega) ?_
          refine AW_aload_n dX6_reach_79 rfl ?_
          refine AW_iconst dX6_reach_80 ?_
          refine AW_put dX6_reach_81 pX6_41 rfl rfl rfl rfl ?_
          refine AW_iconst dX6_reach_84 ?_
          refine AW_iret dX6_reach_85 rfl ?_
          refine ⟨_, rfl, ?_⟩
          simp only [reachS, Int.toNat_natCast]
          rw [if_pos (by omega), if_pos (by omega), if_neg h44]
          dsimp only
          refine ⟨rfl, hC.tell (fun b hb => ?_) (fun b _ => rfl) (CS.cgA (σ := σ) (fun b h1 h2 => ?_) rfl (fun j hj => ?_) hT hC.2.1 ?_) (WX_arm hW (fun j hj => ?_) (WA_reach hA (by omega) (by omega) h44))⟩
          · rw [am_up_other (by omega), am_up_other (by omega)]
          · rw [am_up_other (by omega), am_up_other (by omega)]
          · rw [rup_ne (by omega), rup_ne (by omega)]
          · exact AO_up (i := 1) (AO_up (i := 0) hAO (by omega) (by omega)) (by omega) (by omega)
          · rw [rup_ne (by omega), rup_ne (by omega)]
      · refine AW_if_ne 34 dX6_reach_28 (by decide) (by decide) (fun h => absurd h (by decide)) (fun _ => ?_)
        refine AW_bipush dX6_reach_31 (by decide) ?_
        refine AW_iret dX6_reach_33 rfl ?_
        refine ⟨_, rfl, ?_⟩
        simp only [reachS, Int.toNat_natCast]
        rw [if_pos (by omega), if_neg (by omega)]
        exact ⟨rfl, hC.rf⟩
    · refine AW_if_eq 31 dX6_reach_17 (by decide) (by decide) (fun _ => ?_) (fun h => absurd (by decide) h)
      refine AW_bipush dX6_reach_31 (by decide) ?_
      refine AW_iret dX6_reach_33 rfl ?_
      refine ⟨_, rfl, ?_⟩
      simp only [reachS, Int.toNat_natCast]
      rw [if_pos (by omega), if_neg (by omega)]
      exact ⟨rfl, hC.rf⟩
  · refine AW_if_ne 9 dX6_reach_4 (by decide) (by decide) (fun h => absurd h (by decide)) (fun _ => ?_)
    refine AW_iconst dX6_reach_7 ?_
    refine AW_iret dX6_reach_8 rfl ?_
    refine ⟨_, rfl, ?_⟩
    simp only [reachS, Int.toNat_natCast]
    rw [if_neg (by omega)]
    exact ⟨rfl, hC.rf⟩
theorem c_beat {σ : am_S} {X K : Row} {Y : Nat → Row} (hC : CC σ X K Y) {arm n off : Int} (harm : -2147483648 ≤ arm ∧ arm < 2147483648) (hn : -2147483648 ≤ n ∧ n < 2147483648) (hoff : -2147483648 ≤ off ∧ off < 2147483648) : Runs am_tab mX6_beat [vR 0, vI arm, vI n, vI off] σ (QI (fun z σ' => z = (beatS X arm n off).1 ∧ CP σ σ' (beatS X arm n off).2 K Y)) := by
  refine Runs.of (by decide) rfl (by simp) (Nat.le_of_ble_eq_true rfl) ?_
  show AW am_tab mX6_beat 0 [some (vR 0), some (vI arm), some (vI n), some (vI off)] [] σ _
  have hW := hC.1
  have hS := hW.1
  have hT := hW.2.1
  have hA := hW.2.2.1
  have hN := hW.2.2.2
  have hB := hC.2.1.1
  have hG := hC.2.1.2.1
  have hTO := hC.2.1.2.2.1
  have hAO := hC.2.1.2.2.2.1
  have hSN := hC.2.1.2.2.2.2.1
  have hm := hT.1
  have hc7 := hTO.1
  refine AW_iload_n dX6_beat_0 rfl ?_
  refine AW_cSI1 dX6_beat_1 kX6_148 (am_fit_b rfl) (Nat.le_of_ble_eq_true rfl) (c_isArm harm) (fun z σ' hq => ?_)
  obtain ⟨rfl, ⟨rfl, h1⟩ | ⟨rfl, h1⟩⟩ := hq
  · refine AW_if_ne 9 dX6_beat_4 (by decide) (by decide) (fun _ => ?_) (fun h => absurd (by decide) h)
    refine AW_iload_n dX6_beat_9 rfl ?_
    refine AW_iconst dX6_beat_10 ?_
    refine AW_bipush dX6_beat_11 (by decide) ?_
    refine AW_cSI3 dX6_beat_13 kX6_49 (am_fit_b rfl) (Nat.le_of_ble_eq_true rfl) (c_isWithin hn (by omega) (by omega)) (fun z σ' hq => ?_)
    obtain ⟨rfl, ⟨rfl, h13⟩ | ⟨rfl, h13⟩⟩ := hq
    · refine AW_if_eq 30 dX6_beat_16 (by decide) (by decide) (fun h => absurd h (by decide)) (fun _ => ?_)
      refine AW_iload_n dX6_beat_19 rfl ?_
      refine AW_iconst dX6_beat_20 ?_
      refine AW_iload_n dX6_beat_21 rfl ?_
      refine AW_iconst dX6_beat_22 ?_
      refine AW_isub dX6_beat_23 ?_
      refine AW_cSI3 dX6_beat_24 kX6_49 (am_fit_b rfl) (Nat.le_of_ble_eq_true rfl) (c_isWithin hoff (by omega) (by omega)) (fun z σ' hq => ?_)
      obtain ⟨rfl, ⟨rfl, h24⟩ | ⟨rfl, h24⟩⟩ := hq
      · refine AW_if_ne 33 dX6_beat_27 (by decide) (by decide) (fun _ => ?_) (fun h => absurd (by decide) h)
        obtain ⟨a, rfl⟩ : ∃ a : Nat, arm = a := ⟨arm.toNat, by omega⟩
        refine AW_aload_n dX6_beat_33 rfl ?_
        refine AW_get dX6_beat_34 fX6_12 rfl rfl ?_
        refine AW_get dX6_beat_37 fX6_151 rfl rfl ?_
        refine AW_get dX6_beat_40 fX6_166 rfl rfl ?_
        refine AW_iload_n dX6_beat_43 rfl ?_
        refine AW_iload_n dX6_beat_44 rfl ?_
        refine AW_iastN (j := a) dX6_beat_45 rfl (Nat.le_of_ble_eq_true rfl) (by omega) (by omega) ?_
        refine AW_aload_n dX6_beat_46 rfl ?_
        refine AW_get dX6_beat_47 fX6_12 rfl rfl ?_
        refine AW_get dX6_beat_50 fX6_151 rfl rfl ?_
        refine AW_get dX6_beat_53 fX6_169 rfl rfl ?_
        refine AW_iload_n dX6_beat_56 rfl ?_
        refine AW_iload_n dX6_beat_57 rfl ?_
        refine AW_iastN (j := a) dX6_beat_58 rfl (Nat.le_of_ble_eq_true rfl) (by omega) (by omega) ?_
        refine AW_aload_n dX6_beat_59 rfl ?_
        refine AW_iconst dX6_beat_60 ?_
        refine AW_put dX6_beat_61 pX6_41 rfl rfl rfl rfl ?_
        refine AW_iconst dX6_beat_64 ?_
        refine AW_iret dX6_beat_65 rfl ?_
        refine ⟨_, rfl, ?_⟩
        simp only [beatS, Int.toNat_natCast]
        rw [if_pos (by omega), if_pos (by omega)]
        dsimp only
        refine ⟨rfl, hC.tell (fun b hb => ?_) (fun b _ => rfl) (CS.cgA (σ := σ) (fun b h1 h2 => ?_) rfl (fun j hj => ?_) hT hC.2.1 ?_) (WX_arm hW (fun j hj => ?_) (WA_beat hA (by omega) (by omega) (by omega)))⟩
        · rw [am_up_other (by omega), am_up_other (by omega)]
        · rw [am_up_other (by omega), am_up_other (by omega)]
        · rw [rup_ne (by omega), rup_ne (by omega)]
        · exact AO_up (i := 3) (AO_up (i := 2) hAO (by omega) (by omega)) (by omega) (by omega)
        · rw [rup_ne (by omega), rup_ne (by omega)]
      · refine AW_if_ne 33 dX6_beat_27 (by decide) (by decide) (fun h => absurd h (by decide)) (fun _ => ?_)
        refine AW_bipush dX6_beat_30 (by decide) ?_
        refine AW_iret dX6_beat_32 rfl ?_
        refine ⟨_, rfl, ?_⟩
        simp only [beatS, Int.toNat_natCast]
        rw [if_pos (by omega), if_neg (by omega)]
        exact ⟨rfl, hC.rf⟩
    · refine AW_if_eq 30 dX6_beat_16 (by decide) (by decide) (fun _ => ?_) (fun h => absurd (by decide) h)
      refine AW_bipush dX6_beat_30 (by decide) ?_
      refine AW_iret dX6_beat_32 rfl ?_
      refine ⟨_, rfl, ?_⟩
      simp only [beatS, Int.toNat_natCast]
      rw [if_pos (by omega), if_neg (by omega)]
      exact ⟨rfl, hC.rf⟩
  · refine AW_if_ne 9 dX6_beat_4 (by decide) (by decide) (fun h => absurd h (by decide)) (fun _ => ?_)
    refine AW_iconst dX6_beat_7 ?_
    refine AW_iret dX6_beat_8 rfl ?_
    refine ⟨_, rfl, ?_⟩
    simp only [beatS, Int.toNat_natCast]
    rw [if_neg (by omega)]
    exact ⟨rfl, hC.rf⟩
theorem c_lanes {σ : am_S} {X K : Row} {Y : Nat → Row} (hC : CC σ X K Y) {arm set : Int} (harm : -2147483648 ≤ arm ∧ arm < 2147483648) (hset : -2147483648 ≤ set ∧ set < 2147483648) : Runs am_tab mX6_lanes [vR 0, vI arm, vI set] σ (QI (fun z σ' => z = (lanesS X arm set).1 ∧ CP σ σ' (lanesS X arm set).2 K Y)) := by
  refine Runs.of (by decide) rfl (by simp) (Nat.le_of_ble_eq_true rfl) ?_
  show AW am_tab mX6_lanes 0 [some (vR 0), some (vI arm), some (vI set), none] [] σ _
  have hW := hC.1
  have hS := hW.1
  have hT := hW.2.1
  have hA := hW.2.2.1
  have hN := hW.2.2.2
  have hB := hC.2.1.1
  have hG := hC.2.1.2.1
  have hTO := hC.2.1.2.2.1
  have hAO := hC.2.1.2.2.2.1
  have hSN := hC.2.1.2.2.2.2.1
  have hm := hT.1
  have hc7 := hTO.1
  refine AW_iload_n dX6_lanes_0 rfl ?_
  refine AW_cSI1 dX6_lanes_1 kX6_148 (am_fit_b rfl) (Nat.le_of_ble_eq_true rfl) (c_isArm harm) (fun z σ' hq => ?_)
  obtain ⟨rfl, ⟨rfl, h1⟩ | ⟨rfl, h1⟩⟩ := hq
  · refine AW_if_ne 9 dX6_lanes_4 (by decide) (by decide) (fun _ => ?_) (fun h => absurd (by decide) h)
    refine AW_iload_n dX6_lanes_9 rfl ?_
    refine AW_iconst dX6_lanes_10 ?_
    refine AW_bipush dX6_lanes_11 (by decide) ?_
    refine AW_cSI3 dX6_lanes_13 kX6_49 (am_fit_b rfl) (Nat.le_of_ble_eq_true rfl) (c_isWithin hset (by omega) (by omega)) (fun z σ' hq => ?_)
    obtain ⟨rfl, ⟨rfl, h13⟩ | ⟨rfl, h13⟩⟩ := hq
    · refine AW_if_ne 22 dX6_lanes_16 (by decide) (by decide) (fun _ => ?_) (fun h => absurd (by decide) h)
      obtain ⟨a, rfl⟩ : ∃ a : Nat, arm = a := ⟨arm.toNat, by omega⟩
      refine AW_aload_n dX6_lanes_22 rfl ?_
      refine AW_get dX6_lanes_23 fX6_12 rfl rfl ?_
      refine AW_get dX6_lanes_26 fX6_151 rfl rfl ?_
      refine AW_get dX6_lanes_29 fX6_172 rfl rfl ?_
      refine AW_iload_n dX6_lanes_32 rfl ?_
      refine AW_ialdN (j := a) dX6_lanes_33 rfl (Nat.le_of_ble_eq_true rfl) (by omega) (by omega) ?_
      refine AW_istore_n (i := 3) (lv' := [_, _, _, _]) dX6_lanes_34 rfl (by decide) (Nat.le_of_ble_eq_true rfl) rfl ?_
      refine AW_aload_n dX6_lanes_35 rfl ?_
      refine AW_get dX6_lanes_36 fX6_12 rfl rfl ?_
      refine AW_get dX6_lanes_39 fX6_151 rfl rfl ?_
      refine AW_get dX6_lanes_42 fX6_172 rfl rfl ?_
      refine AW_iload_n dX6_lanes_45 rfl ?_
      refine AW_iload_n dX6_lanes_46 rfl ?_
      refine AW_iastN (j := a) dX6_lanes_47 rfl (Nat.le_of_ble_eq_true rfl) (by omega) (by omega) ?_
      refine AW_aload_n dX6_lanes_48 rfl ?_
      refine AW_iconst dX6_lanes_49 ?_
      refine AW_put dX6_lanes_50 pX6_41 rfl rfl rfl rfl ?_
      refine AW_iload_n dX6_lanes_53 rfl ?_
      refine AW_iret dX6_lanes_54 rfl ?_
      refine ⟨_, rfl, ?_⟩
      simp only [lanesS, Int.toNat_natCast]
      rw [if_pos (by omega), if_pos (by omega)]
      dsimp only
      refine ⟨(hAO a (by omega)).2.2.2.2, hC.tell (fun b hb => ?_) (fun b _ => rfl) (CS.cgA (σ := σ) (fun b h1 h2 => ?_) rfl (fun j hj => ?_) hT hC.2.1 ?_) (WX_arm hW (fun j hj => ?_) (WA_lanes hA (by omega) (by omega)))⟩
      · rw [am_up_other (by omega)]
      · rw [am_up_other (by omega)]
      · rw [rup_ne (by omega)]
      · exact AO_up (i := 4) hAO (by omega) (by omega)
      · rw [rup_ne (by omega)]
    · refine AW_if_ne 22 dX6_lanes_16 (by decide) (by decide) (fun h => absurd h (by decide)) (fun _ => ?_)
      refine AW_bipush dX6_lanes_19 (by decide) ?_
      refine AW_iret dX6_lanes_21 rfl ?_
      refine ⟨_, rfl, ?_⟩
      simp only [lanesS, Int.toNat_natCast]
      rw [if_pos (by omega), if_neg (by omega)]
      exact ⟨rfl, hC.rf⟩
  · refine AW_if_ne 9 dX6_lanes_4 (by decide) (by decide) (fun h => absurd h (by decide)) (fun _ => ?_)
    refine AW_iconst dX6_lanes_7 ?_
    refine AW_iret dX6_lanes_8 rfl ?_
    refine ⟨_, rfl, ?_⟩
    simp only [lanesS, Int.toNat_natCast]
    rw [if_neg (by omega)]
    exact ⟨rfl, hC.rf⟩
theorem c_set {σ : am_S} {X K : Row} {Y : Nat → Row} (hC : CC σ X K Y) {what n : Int} (hwhat : -2147483648 ≤ what ∧ what < 2147483648) (hn : -2147483648 ≤ n ∧ n < 2147483648) : Runs am_tab mX6_set [vR 0, vI what, vI n] σ (QI (fun z σ' => z = (setS X what n).1 ∧ CP σ σ' (setS X what n).2 K Y)) := by
  refine Runs.of (by decide) rfl (by simp) (Nat.le_of_ble_eq_true rfl) ?_
  show AW am_tab mX6_set 0 [some (vR 0), some (vI what), some (vI n), none] [] σ _
  have hW := hC.1
  have hS := hW.1
  have hT := hW.2.1
  have hA := hW.2.2.1
  have hN := hW.2.2.2
  have hB := hC.2.1.1
  have hG := hC.2.1.2.1
  have hTO := hC.2.1.2.2.1
  have hAO := hC.2.1.2.2.2.1
  have hSN := hC.2.1.2.2.2.2.1
  have hm := hT.1
  have hc7 := hTO.1
  refine AW_iload_n dX6_set_0 rfl ?_
  refine AW_if_ne 32 dX6_set_1 (by decide) (by omega) (fun h1 => ?_) (fun h1 => ?_)
  · refine AW_iload_n dX6_set_32 rfl ?_
    refine AW_iconst dX6_set_33 ?_
    refine AW_icmp_ne 70 dX6_set_34 (by decide) (by omega) (by omega) (fun h34 => ?_) (fun h34 => ?_)
    · refine AW_bipush dX6_set_70 (by decide) ?_
      refine AW_iret dX6_set_72 rfl ?_
      refine ⟨_, rfl, ?_⟩
      simp only [setS]
      rw [if_neg (by omega), if_neg (by omega)]
      exact ⟨rfl, hC.rf⟩
    · refine AW_iload_n dX6_set_37 rfl ?_
      refine AW_iconst dX6_set_38 ?_
      refine AW_bipush dX6_set_39 (by decide) ?_
      refine AW_cSI3 dX6_set_41 kX6_49 (am_fit_b rfl) (Nat.le_of_ble_eq_true rfl) (c_isWithin hn (by omega) (by omega)) (fun z σ' hq => ?_)
      obtain ⟨rfl, ⟨rfl, h41⟩ | ⟨rfl, h41⟩⟩ := hq
      · refine AW_if_eq 70 dX6_set_44 (by decide) (by decide) (fun h => absurd h (by decide)) (fun _ => ?_)
        refine AW_aload_n dX6_set_47 rfl ?_
        refine AW_get dX6_set_48 fX6_12 rfl rfl ?_
        refine AW_get dX6_set_51 fX6_201 rfl rfl ?_
        refine AW_istore_n (i := 3) (lv' := [_, _, _, _]) dX6_set_54 rfl (by decide) (Nat.le_of_ble_eq_true rfl) rfl ?_
        refine AW_aload_n dX6_set_55 rfl ?_
        refine AW_get dX6_set_56 fX6_12 rfl rfl ?_
        refine AW_iload_n dX6_set_59 rfl ?_
        refine AW_put dX6_set_60 pX6_201 rfl rfl rfl rfl ?_
        refine AW_aload_n dX6_set_63 rfl ?_
        refine AW_iconst dX6_set_64 ?_
        refine AW_put dX6_set_65 pX6_41 rfl rfl rfl rfl ?_
        refine AW_iload_n dX6_set_68 rfl ?_
        refine AW_iret dX6_set_69 rfl ?_
        refine ⟨_, rfl, ?_⟩
        simp only [setS]
        rw [if_neg (by omega), if_pos (by omega)]
        dsimp only
        refine ⟨hC.2.1.2.2.2.2.2.2, hC.tell (fun b hb => am_up_other (by omega)) (fun b _ => rfl) (CS.cgN (σ := σ) (fun b h1 h2 => am_up_other (by omega)) rfl (fun j hj => rup_ne (by omega)) hT hC.2.1 ?_ ?_) ⟨WS_cg (fun j hj => rup_ne (by omega)) hS, WT_cg (fun j h1 h2 => rup_ne (by omega)) (rup_ne (by omega)) hT, WA_cg (fun j h1 h2 => rup_ne (by omega)) hA, ?_⟩⟩
        · rw [am_up_same, rup_ne (by decide), rup_ne (by decide)]; exact hC.2.1.2.2.2.2.2.1
        · rw [am_up_same, rup_at, rup_at]
        · unfold WN
          rw [rup_at, rup_ne (by decide)]
          exact ⟨hN.1, by omega⟩
      · refine AW_if_eq 70 dX6_set_44 (by decide) (by decide) (fun _ => ?_) (fun h => absurd (by decide) h)
        refine AW_bipush dX6_set_70 (by decide) ?_
        refine AW_iret dX6_set_72 rfl ?_
        refine ⟨_, rfl, ?_⟩
        simp only [setS]
        rw [if_neg (by omega), if_neg (by omega)]
        exact ⟨rfl, hC.rf⟩
  · refine AW_iload_n dX6_set_4 rfl ?_
    refine AW_iconst dX6_set_5 ?_
    refine AW_bipush dX6_set_6 (by decide) ?_
    refine AW_cSI3 dX6_set_8 kX6_49 (am_fit_b rfl) (Nat.le_of_ble_eq_true rfl) (c_isWithin hn (by omega) (by omega)) (fun z σ' hq => ?_)
    obtain ⟨rfl, ⟨rfl, h8⟩ | ⟨rfl, h8⟩⟩ := hq
    · refine AW_if_eq 32 dX6_set_11 (by decide) (by decide) (fun h => absurd h (by decide)) (fun _ => ?_)
      refine AW_aload_n dX6_set_14 rfl ?_
      refine AW_get dX6_set_15 fX6_12 rfl rfl ?_
      refine AW_get dX6_set_18 fX6_207 rfl rfl ?_
      refine AW_istore_n (i := 3) (lv' := [_, _, _, _]) dX6_set_21 rfl (by decide) (Nat.le_of_ble_eq_true rfl) rfl ?_
      refine AW_aload_n dX6_set_22 rfl ?_
      refine AW_get dX6_set_23 fX6_12 rfl rfl ?_
      refine AW_iload_n dX6_set_26 rfl ?_
      refine AW_put dX6_set_27 pX6_207 rfl rfl rfl rfl ?_
      refine AW_iload_n dX6_set_30 rfl ?_
      refine AW_iret dX6_set_31 rfl ?_
      refine ⟨_, rfl, ?_⟩
      simp only [setS]
      rw [if_pos (by omega)]
      dsimp only
      refine ⟨hC.2.1.2.2.2.2.2.1, hC.quiet (fun b hb => am_up_other (by omega)) (fun b _ => rfl) (CS.cgN (σ := σ) (fun b h1 h2 => am_up_other (by omega)) rfl (fun j hj => rup_ne (by omega)) hT hC.2.1 ?_ ?_) ⟨WS_cg (fun j hj => rup_ne (by omega)) hS, WT_cg (fun j h1 h2 => rup_ne (by omega)) (rup_ne (by omega)) hT, WA_cg (fun j h1 h2 => rup_ne (by omega)) hA, ?_⟩ (fun j hj => rup_ne (by omega))⟩
      · rw [am_up_same, rup_at, rup_at]
      · rw [am_up_same, rup_ne (by decide), rup_ne (by decide)]; exact hC.2.1.2.2.2.2.2.2
      · unfold WN
        rw [rup_at, rup_ne (by decide)]
        exact ⟨by omega, hN.2⟩
    · refine AW_if_eq 32 dX6_set_11 (by decide) (by decide) (fun _ => ?_) (fun h => absurd (by decide) h)
      refine AW_iload_n dX6_set_32 rfl ?_
      refine AW_iconst dX6_set_33 ?_
      refine AW_icmp_ne 70 dX6_set_34 (by decide) (by omega) (by omega) (fun h34 => ?_) (fun h34 => ?_)
      · refine AW_bipush dX6_set_70 (by decide) ?_
        refine AW_iret dX6_set_72 rfl ?_
        refine ⟨_, rfl, ?_⟩
        simp only [setS]
        rw [if_neg (by omega), if_neg (by omega)]
        exact ⟨rfl, hC.rf⟩
      · refine AW_iload_n dX6_set_37 rfl ?_
        refine AW_iconst dX6_set_38 ?_
        refine AW_bipush dX6_set_39 (by decide) ?_
        refine AW_cSI3 dX6_set_41 kX6_49 (am_fit_b rfl) (Nat.le_of_ble_eq_true rfl) (c_isWithin hn (by omega) (by omega)) (fun z σ' hq => ?_)
        obtain ⟨rfl, ⟨rfl, h41⟩ | ⟨rfl, h41⟩⟩ := hq
        · refine AW_if_eq 70 dX6_set_44 (by decide) (by decide) (fun h => absurd h (by decide)) (fun _ => ?_)
          refine AW_aload_n dX6_set_47 rfl ?_
          refine AW_get dX6_set_48 fX6_12 rfl rfl ?_
          refine AW_get dX6_set_51 fX6_201 rfl rfl ?_
          refine AW_istore_n (i := 3) (lv' := [_, _, _, _]) dX6_set_54 rfl (by decide) (Nat.le_of_ble_eq_true rfl) rfl ?_
          refine AW_aload_n dX6_set_55 rfl ?_
          refine AW_get dX6_set_56 fX6_12 rfl rfl ?_
          refine AW_iload_n dX6_set_59 rfl ?_
          refine AW_put dX6_set_60 pX6_201 rfl rfl rfl rfl ?_
          refine AW_aload_n dX6_set_63 rfl ?_
          refine AW_iconst dX6_set_64 ?_
          refine AW_put dX6_set_65 pX6_41 rfl rfl rfl rfl ?_
          refine AW_iload_n dX6_set_68 rfl ?_
          refine AW_iret dX6_set_69 rfl ?_
          refine ⟨_, rfl, ?_⟩
          simp only [setS]
          rw [if_neg (by omega), if_pos (by omega)]
          dsimp only
          refine ⟨hC.2.1.2.2.2.2.2.2, hC.tell (fun b hb => am_up_other (by omega)) (fun b _ => rfl) (CS.cgN (σ := σ) (fun b h1 h2 => am_up_other (by omega)) rfl (fun j hj => rup_ne (by omega)) hT hC.2.1 ?_ ?_) ⟨WS_cg (fun j hj => rup_ne (by omega)) hS, WT_cg (fun j h1 h2 => rup_ne (by omega)) (rup_ne (by omega)) hT, WA_cg (fun j h1 h2 => rup_ne (by omega)) hA, ?_⟩⟩
          · rw [am_up_same, rup_ne (by decide), rup_ne (by decide)]; exact hC.2.1.2.2.2.2.2.1
          · rw [am_up_same, rup_at, rup_at]
          · unfold WN
            rw [rup_at, rup_ne (by decide)]
            exact ⟨hN.1, by omega⟩
        · refine AW_if_eq 70 dX6_set_44 (by decide) (by decide) (fun _ => ?_) (fun h => absurd (by decide) h)
          refine AW_bipush dX6_set_70 (by decide) ?_
          refine AW_iret dX6_set_72 rfl ?_
          refine ⟨_, rfl, ?_⟩
          simp only [setS]
          rw [if_neg (by omega), if_neg (by omega)]
          exact ⟨rfl, hC.rf⟩
theorem c_count {σ : am_S} {X K : Row} {Y : Nat → Row} (hC : CC σ X K Y) {what : Int} (hwhat : -2147483648 ≤ what ∧ what < 2147483648) : Runs am_tab mX6_count [vR 0, vI what] σ (QI (fun z σ' => z = countS X K what ∧ CP σ σ' X K Y)) := by
  refine Runs.of (by decide) rfl (by simp) (Nat.le_of_ble_eq_true rfl) ?_
  show AW am_tab mX6_count 0 [some (vR 0), some (vI what)] [] σ _
  have hW := hC.1
  have hS := hW.1
  have hT := hW.2.1
  have hA := hW.2.2.1
  have hN := hW.2.2.2
  have hB := hC.2.1.1
  have hG := hC.2.1.2.1
  have hTO := hC.2.1.2.2.1
  have hAO := hC.2.1.2.2.2.1
  have hSN := hC.2.1.2.2.2.2.1
  have hm := hT.1
  have hc7 := hTO.1
  have hK0 := hC.2.2.1 0 (by omega)
  have hK1 := hC.2.2.1 1 (by omega)
  have hkp := hC.2.2.2.1
  have hch := belt_chg hB
  have hn3 := hC.2.1.2.2.2.2.2.1
  have hn4 := hC.2.1.2.2.2.2.2.2
  refine AW_iload_n dX6_count_0 rfl ?_
  rcases (show (what < 0 ∨ 12 < what) ∨ what = 0 ∨ what = 1 ∨ what = 2 ∨ what = 3 ∨ what = 4 ∨ what = 5 ∨ what = 6 ∨ what = 7 ∨ what = 8 ∨ what = 9 ∨ what = 10 ∨ what = 11 ∨ what = 12 by omega) with hsw | rfl | rfl | rfl | rfl | rfl | rfl | rfl | rfl | rfl | rfl | rfl | rfl | rfl
  · refine AW_tableOut 137 dX6_count_1 (by omega) hsw (by decide) ?_
    refine AW_bipush dX6_count_137 (by decide) ?_
    refine AW_iret dX6_count_139 rfl ?_
    refine ⟨_, rfl, ?_, hC.rf⟩
    unfold countS
    repeat (first | rw [if_neg (by omega)] | rw [if_pos (by omega)])
    try omega
  · refine AW_tableIn 68 dX6_count_1 (by decide) (by decide) rfl (by decide) ?_
    refine AW_aload_n dX6_count_68 rfl ?_
    refine AW_get dX6_count_69 fX6_12 rfl rfl ?_
    refine AW_get dX6_count_72 fX6_81 rfl rfl ?_
    refine AW_get dX6_count_75 fX6_94 rfl rfl ?_
    refine AW_iret dX6_count_78 rfl ?_
    refine ⟨_, rfl, ?_, hC.rf⟩
    unfold countS
    repeat (first | rw [if_neg (by omega)] | rw [if_pos (by omega)])
    try omega
  · refine AW_tableIn 79 dX6_count_1 (by decide) (by decide) rfl (by decide) ?_
    refine AW_aload_n dX6_count_79 rfl ?_
    refine AW_get dX6_count_80 fX6_12 rfl rfl ?_
    refine AW_get dX6_count_83 fX6_53 rfl rfl ?_
    refine AW_get dX6_count_86 fX6_63 rfl rfl ?_
    refine AW_iret dX6_count_89 rfl ?_
    refine ⟨_, rfl, ?_, hC.rf⟩
    unfold countS
    repeat (first | rw [if_neg (by omega)] | rw [if_pos (by omega)])
    try omega
  · refine AW_tableIn 90 dX6_count_1 (by decide) (by decide) rfl (by decide) ?_
    refine AW_aload_n dX6_count_90 rfl ?_
    refine AW_get dX6_count_91 fX6_12 rfl rfl ?_
    refine AW_get dX6_count_94 fX6_207 rfl rfl ?_
    refine AW_iret dX6_count_97 rfl ?_
    refine ⟨_, rfl, ?_, hC.rf⟩
    unfold countS
    repeat (first | rw [if_neg (by omega)] | rw [if_pos (by omega)])
    try omega
  · refine AW_tableIn 98 dX6_count_1 (by decide) (by decide) rfl (by decide) ?_
    refine AW_aload_n dX6_count_98 rfl ?_
    refine AW_get dX6_count_99 fX6_12 rfl rfl ?_
    refine AW_get dX6_count_102 fX6_201 rfl rfl ?_
    refine AW_iret dX6_count_105 rfl ?_
    refine ⟨_, rfl, ?_, hC.rf⟩
    unfold countS
    repeat (first | rw [if_neg (by omega)] | rw [if_pos (by omega)])
    try omega
  · refine AW_tableIn 106 dX6_count_1 (by decide) (by decide) rfl (by decide) ?_
    refine AW_aload_n dX6_count_106 rfl ?_
    refine AW_get dX6_count_107 fX6_12 rfl rfl ?_
    refine AW_get dX6_count_110 fX6_81 rfl rfl ?_
    refine AW_cVI0 dX6_count_113 kX6_214 (am_fit_b rfl) rfl rfl (Nat.le_of_ble_eq_true rfl) (c_seenOften hT hSN hTO) (fun z σ' hq => ?_)
    obtain ⟨hz, hs⟩ := hq
    replace hz := hz.symm
    subst hz
    replace hs := hs.symm
    subst hs
    refine AW_iret dX6_count_116 rfl ?_
    refine ⟨_, rfl, ?_, hC.rf⟩
    unfold countS
    repeat (first | rw [if_neg (by omega)] | rw [if_pos (by omega)])
    try omega
  · refine AW_tableIn 117 dX6_count_1 (by decide) (by decide) rfl (by decide) ?_
    refine AW_aload_n dX6_count_117 rfl ?_
    refine AW_get dX6_count_118 fX6_20 rfl rfl ?_
    refine AW_iret dX6_count_121 rfl ?_
    refine ⟨_, rfl, ?_, hC.rf⟩
    unfold countS
    rw [if_neg (by omega), if_neg (by omega), if_neg (by omega), if_neg (by omega), if_neg (by omega), if_neg (by omega), if_pos (by omega)]
    by_cases q0 : K 0 = 0
    · by_cases q1 : K 1 = 0
      · rw [if_pos q0, if_pos q1]; omega
      · rw [if_pos q0, if_neg q1]; omega
    · by_cases q1 : K 1 = 0
      · rw [if_neg q0, if_pos q1]; omega
      · rw [if_neg q0, if_neg q1]; omega
  · refine AW_tableIn 137 dX6_count_1 (by decide) (by decide) rfl (by decide) ?_
    refine AW_bipush dX6_count_137 (by decide) ?_
    refine AW_iret dX6_count_139 rfl ?_
    refine ⟨_, rfl, ?_, hC.rf⟩
    unfold countS
    repeat (first | rw [if_neg (by omega)] | rw [if_pos (by omega)])
    try omega
  · refine AW_tableIn 137 dX6_count_1 (by decide) (by decide) rfl (by decide) ?_
    refine AW_bipush dX6_count_137 (by decide) ?_
    refine AW_iret dX6_count_139 rfl ?_
    refine ⟨_, rfl, ?_, hC.rf⟩
    unfold countS
    repeat (first | rw [if_neg (by omega)] | rw [if_pos (by omega)])
    try omega
  · refine AW_tableIn 137 dX6_count_1 (by decide) (by decide) rfl (by decide) ?_
    refine AW_bipush dX6_count_137 (by decide) ?_
    refine AW_iret dX6_count_139 rfl ?_
    refine ⟨_, rfl, ?_, hC.rf⟩
    unfold countS
    repeat (first | rw [if_neg (by omega)] | rw [if_pos (by omega)])
    try omega
  · refine AW_tableIn 137 dX6_count_1 (by decide) (by decide) rfl (by decide) ?_
    refine AW_bipush dX6_count_137 (by decide) ?_
    refine AW_iret dX6_count_139 rfl ?_
    refine ⟨_, rfl, ?_, hC.rf⟩
    unfold countS
    repeat (first | rw [if_neg (by omega)] | rw [if_pos (by omega)])
    try omega
  · refine AW_tableIn 122 dX6_count_1 (by decide) (by decide) rfl (by decide) ?_
    refine AW_aload_n dX6_count_122 rfl ?_
    refine AW_get dX6_count_123 fX6_12 rfl rfl ?_
    refine AW_get dX6_count_126 fX6_81 rfl rfl ?_
    refine AW_iload_n dX6_count_129 rfl ?_
    refine AW_bipush dX6_count_130 (by decide) ?_
    refine AW_isub dX6_count_132 ?_
    refine AW_cVI1 dX6_count_133 kX6_217 (am_fit_b rfl) rfl rfl (Nat.le_of_ble_eq_true rfl) (c_ofKind hT hTO (by omega)) (fun z σ' hq => ?_)
    obtain ⟨hz, hs⟩ := hq
    replace hz := hz.symm
    subst hz
    replace hs := hs.symm
    subst hs
    refine AW_iret dX6_count_136 rfl ?_
    refine ⟨_, rfl, ?_, hC.rf⟩
    unfold countS
    repeat (first | rw [if_neg (by omega)] | rw [if_pos (by omega)])
    try omega
  · refine AW_tableIn 122 dX6_count_1 (by decide) (by decide) rfl (by decide) ?_
    refine AW_aload_n dX6_count_122 rfl ?_
    refine AW_get dX6_count_123 fX6_12 rfl rfl ?_
    refine AW_get dX6_count_126 fX6_81 rfl rfl ?_
    refine AW_iload_n dX6_count_129 rfl ?_
    refine AW_bipush dX6_count_130 (by decide) ?_
    refine AW_isub dX6_count_132 ?_
    refine AW_cVI1 dX6_count_133 kX6_217 (am_fit_b rfl) rfl rfl (Nat.le_of_ble_eq_true rfl) (c_ofKind hT hTO (by omega)) (fun z σ' hq => ?_)
    obtain ⟨hz, hs⟩ := hq
    replace hz := hz.symm
    subst hz
    replace hs := hs.symm
    subst hs
    refine AW_iret dX6_count_136 rfl ?_
    refine ⟨_, rfl, ?_, hC.rf⟩
    unfold countS
    repeat (first | rw [if_neg (by omega)] | rw [if_pos (by omega)])
    try omega
  · refine AW_tableIn 122 dX6_count_1 (by decide) (by decide) rfl (by decide) ?_
    refine AW_aload_n dX6_count_122 rfl ?_
    refine AW_get dX6_count_123 fX6_12 rfl rfl ?_
    refine AW_get dX6_count_126 fX6_81 rfl rfl ?_
    refine AW_iload_n dX6_count_129 rfl ?_
    refine AW_bipush dX6_count_130 (by decide) ?_
    refine AW_isub dX6_count_132 ?_
    refine AW_cVI1 dX6_count_133 kX6_217 (am_fit_b rfl) rfl rfl (Nat.le_of_ble_eq_true rfl) (c_ofKind hT hTO (by omega)) (fun z σ' hq => ?_)
    obtain ⟨hz, hs⟩ := hq
    replace hz := hz.symm
    subst hz
    replace hs := hs.symm
    subst hs
    refine AW_iret dX6_count_136 rfl ?_
    refine ⟨_, rfl, ?_, hC.rf⟩
    unfold countS
    repeat (first | rw [if_neg (by omega)] | rw [if_pos (by omega)])
    try omega
