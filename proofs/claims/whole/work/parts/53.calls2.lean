-- ===== see, image, restore of the class =====
theorem kb_shr0 {a b : Int} (ha : a = 0 ∨ a = 1) (hb : b = 0 ∨ b = 1) : Int32.ofInt (a + 2 * b) >>> (Int32.ofInt 0 &&& 31) = Int32.ofInt (a + 2 * b) := by
  rcases ha with rfl | rfl <;> rcases hb with rfl | rfl <;> decide
theorem kb_and0 {a b : Int} (ha : a = 0 ∨ a = 1) (hb : b = 0 ∨ b = 1) : Int32.ofInt (a + 2 * b) &&& Int32.ofInt 1 = Int32.ofInt a := by
  rcases ha with rfl | rfl <;> rcases hb with rfl | rfl <;> decide
theorem kb_shr1 {a b : Int} (ha : a = 0 ∨ a = 1) (hb : b = 0 ∨ b = 1) : Int32.ofInt (a + 2 * b) >>> (Int32.ofInt 1 &&& 31) = Int32.ofInt b := by
  rcases ha with rfl | rfl <;> rcases hb with rfl | rfl <;> decide
theorem kb_and1 {b : Int} (hb : b = 0 ∨ b = 1) : Int32.ofInt b &&& Int32.ofInt 1 = Int32.ofInt b := by
  rcases hb with rfl | rfl <;> decide
theorem kb_or0 {a b : Int} (ha : a = 0 ∨ a = 1) (hb : b = 0 ∨ b = 1) : Int32.ofInt (a + 2 * b) ||| Int32.ofInt 1 = Int32.ofInt (1 + 2 * b) := by
  rcases ha with rfl | rfl <;> rcases hb with rfl | rfl <;> decide
theorem kb_or1 {a b : Int} (ha : a = 0 ∨ a = 1) (hb : b = 0 ∨ b = 1) : Int32.ofInt (a + 2 * b) ||| Int32.ofInt 2 = Int32.ofInt (a + 2) := by
  rcases ha with rfl | rfl <;> rcases hb with rfl | rfl <;> decide
def imY (X : Row) (Y : Nat → Row) (n : Nat) : Nat → Row := fun k => if k = n then X else Y k
/-- an IMAGE is kept -/
theorem CC.image {σ : am_S} {X K : Row} {Y : Nat → Row} (hC : CC σ X K Y) {n : Nat} (hn : n < 2) {v : Int} (hv : v = rup K n 1 0 + 2 * rup K n 1 1) : CP σ (am_up (cpS σ (2 + (17 + 17 * n)) (2 + 0)) 0 2 v) X (rup K n 1) (imY X Y n) := by
  obtain ⟨c1, c2, c3, c4, c5, c6⟩ := hC
  have e : ∀ a, a ≠ 0 → (am_up (cpS σ (2 + (17 + 17 * n)) (2 + 0)) 0 2 v).1 a = (cpS σ (2 + (17 + 17 * n)) (2 + 0)).1 a := fun a ha => am_up_other ha
  have e0 : (cpS σ (2 + (17 + 17 * n)) (2 + 0)).1 0 = σ.1 0 := cpS_off (by omega)
  have hsm := cpS_same (σ := σ) (b := 17 + 17 * n) (c := 0) (by omega)
  refine ⟨⟨c1, CS.eq (fun a h1 h3 => (e a (by omega)).trans (cpS_off (by omega))) (cpS_o2 (by omega)) c2, fun k hk => ?_, ?_, fun k hk hK => ?_, ?_⟩, fun a ha => (e a (by omega)).trans (cpS_off (by omega))⟩
  · by_cases q : k = n
    · rw [q, rup_at]; omega
    · rw [rup_ne q]; exact c3 k hk
  · rw [am_up_same, rup_at]; exact hv
  · by_cases q : k = n
    · subst q
      unfold imY
      rw [if_pos rfl]
      refine ⟨c1, ?_⟩
      have h9 := CS.same hsm c1.2.1 c2
      exact CS.eq (σ := shS (cpS σ (2 + (17 + 17 * k)) (2 + 0)) (17 + 17 * k)) (fun a h1 h3 => e _ (by omega)) rfl h9
    · rw [rup_ne q] at hK
      unfold imY
      rw [if_neg q]
      refine ⟨(c5 k hk hK).1, CS.eq (σ := shS σ (17 + 17 * k)) (fun a h1 h3 => ?_) ?_ (c5 k hk hK).2⟩
      · exact (e _ (by omega)).trans (cpS_off (by omega))
      · exact cpS_o2 (by omega)
  · rw [am_up_same, rup_ne (by decide), e0]
    rcases c6 with c | ⟨c, d⟩
    · exact Or.inl c
    · refine Or.inr ⟨c, d.eq (fun a ha => ?_)⟩
      simp only [List.mem_cons, List.not_mem_nil, or_false] at ha
      exact (e a (by omega)).trans (cpS_off (by omega))
/-- an IMAGE is what there is -/
theorem CC.restore {σ : am_S} {X K : Row} {Y : Nat → Row} (hC : CC σ X K Y) {n : Nat} (hn : n < 2) (hK : K n = 1) : CP σ (am_up (cpS σ (2 + 0) (2 + (17 + 17 * n))) 0 6 1) (Y n) K Y := by
  have h5 := hC.2.2.2.2.1 n hn hK
  have hsm := cpS_same (σ := σ) (b := 0) (c := 17 + 17 * n) (by omega)
  exact hC.tell (fun a ha => cpS_off (by omega)) (fun a ha => cpS_o2 (by omega)) (CS.same hsm h5.1.2.1 h5.2) h5.1
theorem c_see {σ : am_S} {X K : Row} {Y : Nat → Row} (hC : CC σ X K Y) {tick lane place kind : Int} (htick : -2147483648 ≤ tick ∧ tick < 2147483648) (hlane : -2147483648 ≤ lane ∧ lane < 2147483648) (hplace : -2147483648 ≤ place ∧ place < 2147483648) (hkind : -2147483648 ≤ kind ∧ kind < 2147483648) : Runs am_tab mX6_see [vR 0, vI tick, vI lane, vI place, vI kind] σ (QI (fun z σ' => z = (seeS X tick lane place kind).1 ∧ CP σ σ' (seeS X tick lane place kind).2 K Y)) := by
  refine Runs.of (by decide) rfl (by simp) (Nat.le_of_ble_eq_true rfl) ?_
  show AW am_tab mX6_see 0 [some (vR 0), some (vI tick), some (vI lane), some (vI place), some (vI kind), none, none] [] σ _
  have hW := hC.1
  have hS := hW.1
  have hT := hW.2.1
  have hA := hW.2.2.1
  have hN := hW.2.2.2
  have hB := hC.2.1.1
  have hG := hC.2.1.2.1
  have hTO := hC.2.1.2.2.1
  have hAO := hC.2.1.2.2.2.1
  have hSN := hC.2.1.2.2.2.2.1
  have hm := hT.1
  have hc7 := hTO.1
  refine AW_iload_n dX6_see_0 rfl ?_
  refine AW_cSI1 dX6_see_1 kX6_45 (am_fit_b rfl) (Nat.le_of_ble_eq_true rfl) (c_isTick htick) (fun z σ' hq => ?_)
  obtain ⟨rfl, ⟨rfl, h1⟩ | ⟨rfl, h1⟩⟩ := hq
  · refine AW_if_eq 36 dX6_see_4 (by decide) (by decide) (fun h => absurd h (by decide)) (fun _ => ?_)
    refine AW_iload_n dX6_see_7 rfl ?_
    refine AW_iconst dX6_see_8 ?_
    refine AW_iconst dX6_see_9 ?_
    refine AW_cSI3 dX6_see_10 kX6_49 (am_fit_b rfl) (Nat.le_of_ble_eq_true rfl) (c_isWithin hlane (by omega) (by omega)) (fun z σ' hq => ?_)
    obtain ⟨rfl, ⟨rfl, h10⟩ | ⟨rfl, h10⟩⟩ := hq
    · refine AW_if_eq 36 dX6_see_13 (by decide) (by decide) (fun h => absurd h (by decide)) (fun _ => ?_)
      refine AW_iload_n dX6_see_16 rfl ?_
      refine AW_iconst dX6_see_17 ?_
      refine AW_bipush dX6_see_18 (by decide) ?_
      refine AW_cSI3 dX6_see_20 kX6_49 (am_fit_b rfl) (Nat.le_of_ble_eq_true rfl) (c_isWithin hplace (by omega) (by omega)) (fun z σ' hq => ?_)
      obtain ⟨rfl, ⟨rfl, h20⟩ | ⟨rfl, h20⟩⟩ := hq
      · refine AW_if_eq 36 dX6_see_23 (by decide) (by decide) (fun h => absurd h (by decide)) (fun _ => ?_)
        refine AW_iload dX6_see_26 rfl ?_
        refine AW_iconst dX6_see_28 ?_
        refine AW_iconst dX6_see_29 ?_
        refine AW_cSI3 dX6_see_30 kX6_49 (am_fit_b rfl) (Nat.le_of_ble_eq_true rfl) (c_isWithin hkind (by omega) (by omega)) (fun z σ' hq => ?_)
        obtain ⟨rfl, ⟨rfl, h30⟩ | ⟨rfl, h30⟩⟩ := hq
        · refine AW_if_ne 39 dX6_see_33 (by decide) (by decide) (fun _ => ?_) (fun h => absurd (by decide) h)
          obtain ⟨t, rfl⟩ : ∃ t : Nat, tick = t := ⟨tick.toNat, by omega⟩
          refine AW_aload_n dX6_see_39 rfl ?_
          refine AW_get dX6_see_40 fX6_12 rfl rfl ?_
          refine AW_get dX6_see_43 fX6_81 rfl rfl ?_
          refine AW_astore (lv' := [_, _, _, _, _, _, _]) dX6_see_46 (by decide) (Nat.le_of_ble_eq_true rfl) rfl ?_
          refine AW_aload_n dX6_see_48 rfl ?_
          refine AW_get dX6_see_49 fX6_12 rfl rfl ?_
          refine AW_iload_n dX6_see_52 rfl ?_
          refine AW_iload_n dX6_see_53 rfl ?_
          refine AW_iload_n dX6_see_54 rfl ?_
          refine AW_iload dX6_see_55 rfl ?_
          refine AW_cVI4 dX6_see_57 kX6_85 (am_fit_b rfl) rfl rfl (Nat.le_of_ble_eq_true rfl) (c_nearest hS hT hTO hG hSN hN (by omega) (by omega) (by omega) (by omega) hC.2.1.2.2.2.2.2.1) (fun z σ' hq2 => ?_)
          obtain ⟨hz, hs⟩ := hq2
          replace hs := hs.symm
          subst hs
          rcases hz with ⟨hz0, hz⟩ | ⟨rfl, hz⟩
          · obtain ⟨k, rfl⟩ : ∃ k : Nat, z = k := ⟨z.toNat, by omega⟩
            have hnb := (nearN_b (X := X) hN (tick := t) (lane := lane) (place := place) (kind := kind) (X 6423).toNat).1
            refine AW_istore (lv' := [_, _, _, _, _, _, _]) dX6_see_60 (by decide) (Nat.le_of_ble_eq_true rfl) rfl ?_
            refine AW_iload dX6_see_62 rfl ?_
            refine AW_if_lt 78 dX6_see_64 (by decide) (by omega) (fun h64 => ?_) (fun h64 => ?_)
            · exfalso
              omega
            · refine AW_aload dX6_see_67 rfl ?_
              refine AW_iload dX6_see_69 rfl ?_
              refine AW_iload_n dX6_see_71 rfl ?_
              refine AW_cVV2 dX6_see_72 kX6_89 (am_fit_b rfl) rfl rfl (Nat.le_of_ble_eq_true rfl) (c_markSeen (k := k) (t := t) (by omega) (by omega)) (fun σ' hq3 => ?_)
              replace hq3 := hq3.symm
              subst hq3
              refine AW_iload dX6_see_75 rfl ?_
              refine AW_iret dX6_see_77 rfl ?_
              refine ⟨_, rfl, ?_⟩
              simp only [seeS, Int.toNat_natCast]
              rw [if_pos (by omega), ← hz, if_pos (by omega), Int.toNat_natCast]
              dsimp only
              exact ⟨rfl, hC.quiet (fun a _ => by rw [mkS_1]) (fun a ha => mkS_2 ha) (CS_mark hW hC.2.1 (by omega) (by omega)) (WX_mark hW (by omega) (by omega)) (fun j hj => rup_ne (by omega))⟩
          · obtain ⟨n, hmany⟩ : ∃ n : Nat, X 6423 = n := ⟨(X 6423).toNat, by omega⟩
            refine AW_istore (lv' := [_, _, _, _, _, _, _]) dX6_see_60 (by decide) (Nat.le_of_ble_eq_true rfl) rfl ?_
            refine AW_iload dX6_see_62 rfl ?_
            refine AW_if_lt 78 dX6_see_64 (by decide) (by omega) (fun h64 => ?_) (fun h64 => ?_)
            · refine AW_aload dX6_see_78 rfl ?_
              refine AW_get dX6_see_80 fX6_94 rfl rfl ?_
              refine AW_bipush dX6_see_83 (by decide) ?_
              refine AW_icmp_lt 91 dX6_see_85 (by decide) (by omega) (by omega) (fun h85 => ?_) (fun h85 => ?_)
              · refine AW_aload dX6_see_91 rfl ?_
                refine AW_iload_n dX6_see_93 rfl ?_
                refine AW_iload_n dX6_see_94 rfl ?_
                refine AW_iload_n dX6_see_95 rfl ?_
                refine AW_iload dX6_see_96 rfl ?_
                refine AW_cVV4 dX6_see_98 kX6_97 (am_fit_b rfl) rfl rfl (Nat.le_of_ble_eq_true rfl) (c_append (n := n) (t := t) (by omega) (by omega) (by omega)) (fun σ' hq3 => ?_)
                replace hq3 := hq3.symm
                subst hq3
                refine AW_aload_n dX6_see_101 rfl ?_
                refine AW_iconst dX6_see_102 ?_
                refine AW_put dX6_see_103 pX6_41 rfl rfl rfl rfl ?_
                refine AW_aload dX6_see_106 rfl ?_
                refine AW_get dX6_see_108 fX6_94 rfl rfl ?_
                refine AW_iconst dX6_see_111 ?_
                refine AW_isub dX6_see_112 ?_
                refine AW_iret dX6_see_113 rfl ?_
                refine ⟨_, rfl, ?_⟩
                simp only [seeS, Int.toNat_natCast]
                rw [if_pos (by omega), hz, if_neg (by decide), if_neg (by omega)]
                dsimp only
                refine ⟨?_, hC.tell (fun a ha => apS_off (by simp only [List.mem_cons, List.not_mem_nil, or_false]; omega)) (fun a ha => apS_off2 ha) (CS_new hW hC.2.1 hmany (by omega) (by omega)) (WX_new hW hmany (by omega) (by omega) (by omega) (by omega) (by omega))⟩
                rw [am_up_other (by decide), apS_7]
                omega
              · refine AW_bipush dX6_see_88 (by decide) ?_
                refine AW_iret dX6_see_90 rfl ?_
                refine ⟨_, rfl, ?_⟩
                simp only [seeS, Int.toNat_natCast]
                rw [if_pos (by omega), hz, if_neg (by decide), if_pos (by omega)]
                exact ⟨rfl, hC.rf⟩
            · exfalso
              omega
        · refine AW_if_ne 39 dX6_see_33 (by decide) (by decide) (fun h => absurd h (by decide)) (fun _ => ?_)
          refine AW_bipush dX6_see_36 (by decide) ?_
          refine AW_iret dX6_see_38 rfl ?_
          refine ⟨_, rfl, ?_⟩
          simp only [seeS]
          rw [if_neg (by omega)]
          exact ⟨rfl, hC.rf⟩
      · refine AW_if_eq 36 dX6_see_23 (by decide) (by decide) (fun _ => ?_) (fun h => absurd (by decide) h)
        refine AW_bipush dX6_see_36 (by decide) ?_
        refine AW_iret dX6_see_38 rfl ?_
        refine ⟨_, rfl, ?_⟩
        simp only [seeS]
        rw [if_neg (by omega)]
        exact ⟨rfl, hC.rf⟩
    · refine AW_if_eq 36 dX6_see_13 (by decide) (by decide) (fun _ => ?_) (fun h => absurd (by decide) h)
      refine AW_bipush dX6_see_36 (by decide) ?_
      refine AW_iret dX6_see_38 rfl ?_
      refine ⟨_, rfl, ?_⟩
      simp only [seeS]
      rw [if_neg (by omega)]
      exact ⟨rfl, hC.rf⟩
  · refine AW_if_eq 36 dX6_see_4 (by decide) (by decide) (fun _ => ?_) (fun h => absurd (by decide) h)
    refine AW_bipush dX6_see_36 (by decide) ?_
    refine AW_iret dX6_see_38 rfl ?_
    refine ⟨_, rfl, ?_⟩
    simp only [seeS]
    rw [if_neg (by omega)]
    exact ⟨rfl, hC.rf⟩
theorem c_image {σ : am_S} {X K : Row} {Y : Nat → Row} (hC : CC σ X K Y) {n : Int} (hn : -2147483648 ≤ n ∧ n < 2147483648) : Runs am_tab mX6_image [vR 0, vI n] σ (QI (fun z σ' => if 0 ≤ n ∧ n ≤ 1 then z = 1 ∧ CP σ σ' X (rup K n.toNat 1) (imY X Y n.toNat) else z = -2 ∧ CP σ σ' X K Y)) := by
  refine Runs.of (by decide) rfl (by simp) (Nat.le_of_ble_eq_true rfl) ?_
  show AW am_tab mX6_image 0 [some (vR 0), some (vI n)] [] σ _
  have hK0 := hC.2.2.1 0 (by omega)
  have hK1 := hC.2.2.1 1 (by omega)
  have hk0 : K 0 = 0 ∨ K 0 = 1 := by omega
  have hk1 : K 1 = 0 ∨ K 1 = 1 := by omega
  have hkp := hC.2.2.2.1
  refine AW_iload_n dX6_image_0 rfl ?_
  refine AW_iconst dX6_image_1 ?_
  refine AW_iconst dX6_image_2 ?_
  refine AW_cSI3 dX6_image_3 kX6_49 (am_fit_b rfl) (Nat.le_of_ble_eq_true rfl) (c_isWithin hn (by omega) (by omega)) (fun z σ' hq => ?_)
  obtain ⟨rfl, ⟨rfl, h3⟩ | ⟨rfl, h3⟩⟩ := hq
  · refine AW_if_ne 12 dX6_image_6 (by decide) (by decide) (fun _ => ?_) (fun h => absurd (by decide) h)
    rcases (show n = 0 ∨ n = 1 by omega) with rfl | rfl
    · refine AW_aload_n dX6_image_12 rfl ?_
      refine AW_get dX6_image_13 fX6_16 rfl rfl ?_
      refine AW_iload_n dX6_image_16 rfl ?_
      refine AW_aald (r := 19) dX6_image_17 rfl (by decide) (by decide) rfl ?_
      refine AW_aload_n dX6_image_18 rfl ?_
      refine AW_get dX6_image_19 fX6_12 rfl rfl ?_
      refine AW_cVV1 dX6_image_22 kX6_210 (am_fit_b rfl) rfl rfl (Nat.le_of_ble_eq_true rfl) (c_cpS_19_2) (fun σ' hq2 => ?_)
      replace hq2 := hq2.symm
      subst hq2
      refine AW_aload_n dX6_image_25 rfl ?_
      first | refine AW_dupR dX6_image_26 ?_ | refine AW_dupI dX6_image_26 ?_
      refine AW_get dX6_image_27 fX6_20 rfl rfl ?_
      refine AW_iconst dX6_image_30 ?_
      refine AW_iload_n dX6_image_31 rfl ?_
      refine AW_ishl (z := 1) dX6_image_32 (by decide) ?_
      refine AW_ior (z := 1 + 2 * K 1) dX6_image_33 (by rw [cpS_off (by decide), hkp]; exact kb_or0 hk0 hk1) ?_
      refine AW_put dX6_image_34 pX6_20 rfl rfl rfl rfl ?_
      refine AW_iconst dX6_image_37 ?_
      refine AW_iret dX6_image_38 rfl ?_
      refine ⟨_, rfl, ?_⟩
      show ite _ _ _
      rw [if_pos (by decide)]
      refine ⟨rfl, hC.image (n := 0) (by decide) ?_⟩
      rw [rup_at, rup_ne (by decide)]
    · refine AW_aload_n dX6_image_12 rfl ?_
      refine AW_get dX6_image_13 fX6_16 rfl rfl ?_
      refine AW_iload_n dX6_image_16 rfl ?_
      refine AW_aald (r := 36) dX6_image_17 rfl (by decide) (by decide) rfl ?_
      refine AW_aload_n dX6_image_18 rfl ?_
      refine AW_get dX6_image_19 fX6_12 rfl rfl ?_
      refine AW_cVV1 dX6_image_22 kX6_210 (am_fit_b rfl) rfl rfl (Nat.le_of_ble_eq_true rfl) (c_cpS_36_2) (fun σ' hq2 => ?_)
      replace hq2 := hq2.symm
      subst hq2
      refine AW_aload_n dX6_image_25 rfl ?_
      first | refine AW_dupR dX6_image_26 ?_ | refine AW_dupI dX6_image_26 ?_
      refine AW_get dX6_image_27 fX6_20 rfl rfl ?_
      refine AW_iconst dX6_image_30 ?_
      refine AW_iload_n dX6_image_31 rfl ?_
      refine AW_ishl (z := 2) dX6_image_32 (by decide) ?_
      refine AW_ior (z := K 0 + 2) dX6_image_33 (by rw [cpS_off (by decide), hkp]; exact kb_or1 hk0 hk1) ?_
      refine AW_put dX6_image_34 pX6_20 rfl rfl rfl rfl ?_
      refine AW_iconst dX6_image_37 ?_
      refine AW_iret dX6_image_38 rfl ?_
      refine ⟨_, rfl, ?_⟩
      show ite _ _ _
      rw [if_pos (by decide)]
      refine ⟨rfl, hC.image (n := 1) (by decide) ?_⟩
      rw [rup_ne (by decide), rup_at]
      omega
  · refine AW_if_ne 12 dX6_image_6 (by decide) (by decide) (fun h => absurd h (by decide)) (fun _ => ?_)
    refine AW_bipush dX6_image_9 (by decide) ?_
    refine AW_iret dX6_image_11 rfl ?_
    refine ⟨_, rfl, ?_⟩
    show ite _ _ _
    rw [if_neg (by omega)]
    exact ⟨rfl, hC.rf⟩
theorem c_restore {σ : am_S} {X K : Row} {Y : Nat → Row} (hC : CC σ X K Y) {n : Int} (hn : -2147483648 ≤ n ∧ n < 2147483648) : Runs am_tab mX6_restore [vR 0, vI n] σ (QI (fun z σ' => if 0 ≤ n ∧ n ≤ 1 then (if K n.toNat = 0 then z = -3 ∧ CP σ σ' X K Y else z = 1 ∧ CP σ σ' (Y n.toNat) K Y) else z = -2 ∧ CP σ σ' X K Y)) := by
  refine Runs.of (by decide) rfl (by simp) (Nat.le_of_ble_eq_true rfl) ?_
  show AW am_tab mX6_restore 0 [some (vR 0), some (vI n)] [] σ _
  have hK0 := hC.2.2.1 0 (by omega)
  have hK1 := hC.2.2.1 1 (by omega)
  have hk0 : K 0 = 0 ∨ K 0 = 1 := by omega
  have hk1 : K 1 = 0 ∨ K 1 = 1 := by omega
  have hkp := hC.2.2.2.1
  refine AW_iload_n dX6_restore_0 rfl ?_
  refine AW_iconst dX6_restore_1 ?_
  refine AW_iconst dX6_restore_2 ?_
  refine AW_cSI3 dX6_restore_3 kX6_49 (am_fit_b rfl) (Nat.le_of_ble_eq_true rfl) (c_isWithin hn (by omega) (by omega)) (fun z σ' hq => ?_)
  obtain ⟨rfl, ⟨rfl, h3⟩ | ⟨rfl, h3⟩⟩ := hq
  · refine AW_if_ne 12 dX6_restore_6 (by decide) (by decide) (fun _ => ?_) (fun h => absurd (by decide) h)
    rcases (show n = 0 ∨ n = 1 by omega) with rfl | rfl
    · refine AW_aload_n dX6_restore_12 rfl ?_
      refine AW_get dX6_restore_13 fX6_20 rfl rfl ?_
      refine AW_iload_n dX6_restore_16 rfl ?_
      refine AW_ishr (z := K 0 + 2 * K 1) dX6_restore_17 (by rw [hkp]; exact kb_shr0 hk0 hk1) ?_
      refine AW_iconst dX6_restore_18 ?_
      refine AW_iand (z := K 0) dX6_restore_19 (kb_and0 hk0 hk1) ?_
      refine AW_if_ne 26 dX6_restore_20 (by decide) (by omega) (fun h20 => ?_) (fun h20 => ?_)
      · refine AW_aload_n dX6_restore_26 rfl ?_
        refine AW_get dX6_restore_27 fX6_12 rfl rfl ?_
        refine AW_aload_n dX6_restore_30 rfl ?_
        refine AW_get dX6_restore_31 fX6_16 rfl rfl ?_
        refine AW_iload_n dX6_restore_34 rfl ?_
        refine AW_aald (r := 19) dX6_restore_35 rfl (by decide) (by decide) rfl ?_
        refine AW_cVV1 dX6_restore_36 kX6_210 (am_fit_b rfl) rfl rfl (Nat.le_of_ble_eq_true rfl) (c_cpS_2_19) (fun σ' hq2 => ?_)
        replace hq2 := hq2.symm
        subst hq2
        refine AW_aload_n dX6_restore_39 rfl ?_
        refine AW_iconst dX6_restore_40 ?_
        refine AW_put dX6_restore_41 pX6_41 rfl rfl rfl rfl ?_
        refine AW_iconst dX6_restore_44 ?_
        refine AW_iret dX6_restore_45 rfl ?_
        refine ⟨_, rfl, ?_⟩
        show ite _ _ _
        rw [if_pos (by decide), if_neg (show ¬ K (Int.toNat 0) = 0 from (show ¬ K 0 = 0 by omega))]
        exact ⟨rfl, hC.restore (n := 0) (by decide) (by omega)⟩
      · refine AW_bipush dX6_restore_23 (by decide) ?_
        refine AW_iret dX6_restore_25 rfl ?_
        refine ⟨_, rfl, ?_⟩
        show ite _ _ _
        rw [if_pos (by decide), if_pos (show K (Int.toNat 0) = 0 from (show K 0 = 0 by omega))]
        exact ⟨rfl, hC.rf⟩
    · refine AW_aload_n dX6_restore_12 rfl ?_
      refine AW_get dX6_restore_13 fX6_20 rfl rfl ?_
      refine AW_iload_n dX6_restore_16 rfl ?_
      refine AW_ishr (z := K 1) dX6_restore_17 (by rw [hkp]; exact kb_shr1 hk0 hk1) ?_
      refine AW_iconst dX6_restore_18 ?_
      refine AW_iand (z := K 1) dX6_restore_19 (kb_and1 hk1) ?_
      refine AW_if_ne 26 dX6_restore_20 (by decide) (by omega) (fun h20 => ?_) (fun h20 => ?_)
      · refine AW_aload_n dX6_restore_26 rfl ?_
        refine AW_get dX6_restore_27 fX6_12 rfl rfl ?_
        refine AW_aload_n dX6_restore_30 rfl ?_
        refine AW_get dX6_restore_31 fX6_16 rfl rfl ?_
        refine AW_iload_n dX6_restore_34 rfl ?_
        refine AW_aald (r := 36) dX6_restore_35 rfl (by decide) (by decide) rfl ?_
        refine AW_cVV1 dX6_restore_36 kX6_210 (am_fit_b rfl) rfl rfl (Nat.le_of_ble_eq_true rfl) (c_cpS_2_36) (fun σ' hq2 => ?_)
        replace hq2 := hq2.symm
        subst hq2
        refine AW_aload_n dX6_restore_39 rfl ?_
        refine AW_iconst dX6_restore_40 ?_
        refine AW_put dX6_restore_41 pX6_41 rfl rfl rfl rfl ?_
        refine AW_iconst dX6_restore_44 ?_
        refine AW_iret dX6_restore_45 rfl ?_
        refine ⟨_, rfl, ?_⟩
        show ite _ _ _
        rw [if_pos (by decide), if_neg (show ¬ K (Int.toNat 1) = 0 from (show ¬ K 1 = 0 by omega))]
        exact ⟨rfl, hC.restore (n := 1) (by decide) (by omega)⟩
      · refine AW_bipush dX6_restore_23 (by decide) ?_
        refine AW_iret dX6_restore_25 rfl ?_
        refine ⟨_, rfl, ?_⟩
        show ite _ _ _
        rw [if_pos (by decide), if_pos (show K (Int.toNat 1) = 0 from (show K 1 = 0 by omega))]
        exact ⟨rfl, hC.rf⟩
  · refine AW_if_ne 12 dX6_restore_6 (by decide) (by decide) (fun h => absurd h (by decide)) (fun _ => ?_)
    refine AW_bipush dX6_restore_9 (by decide) ?_
    refine AW_iret dX6_restore_11 rfl ?_
    refine ⟨_, rfl, ?_⟩
    show ite _ _ _
    rw [if_neg (by omega)]
    exact ⟨rfl, hC.rf⟩
