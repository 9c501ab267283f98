/-- the nearest of the first k THINGS that a SIGHT may be of, and how far -/
def nearN (X : Row) (tick : Nat) (lane place kind : Int) : Nat → Int × Int
  | 0 => (-6, X 6421 + 1)
  | k + 1 => if X (321 + k) = lane ∧ X (361 + k) = kind ∧ X (381 + 301 * k + tick) ≠ 1 ∧ ((plc X k tick - place).natAbs : Int) < (nearN X tick lane place kind k).2 then ((k : Int), ((plc X k tick - place).natAbs : Int)) else nearN X tick lane place kind k
theorem nearN_b {X : Row} (hN : WN X) {tick : Nat} {lane place kind : Int} : ∀ k, ((nearN X tick lane place kind k).1 = -6 ∨ 0 ≤ (nearN X tick lane place kind k).1 ∧ (nearN X tick lane place kind k).1 < k) ∧ 0 ≤ (nearN X tick lane place kind k).2 ∧ (nearN X tick lane place kind k).2 ≤ 21 := by
  intro k
  induction k with
  | zero => have := hN.1; exact ⟨Or.inl rfl, show 0 ≤ X 6421 + 1 by omega, show X 6421 + 1 ≤ 21 by omega⟩
  | succ k ih =>
    simp only [nearN]
    split
    · dsimp only; omega
    · omega
/-- the row behind a new THING -/
def newX (X : Row) (tick : Nat) (lane place kind : Int) : Row := fun j => if j = 6423 then X 6423 + 1 else if j = 381 + 301 * (X 6423).toNat + tick then 1 else if 381 + 301 * (X 6423).toNat ≤ j ∧ j < 381 + 301 * (X 6423).toNat + 301 then 0 else if j = 361 + (X 6423).toNat then kind else if j = 341 + (X 6423).toNat then place else if j = 321 + (X 6423).toNat then lane else if j = 301 + (X 6423).toNat then (tick : Int) else X j
def seeS (X : Row) (tick lane place kind : Int) : Int × Row := if (0 ≤ tick ∧ tick ≤ 300) ∧ (0 ≤ lane ∧ lane ≤ 3) ∧ (0 ≤ place ∧ place ≤ 60) ∧ 0 ≤ kind ∧ kind ≤ 2 then (if 0 ≤ (nearN X tick.toNat lane place kind (X 6423).toNat).1 then ((nearN X tick.toNat lane place kind (X 6423).toNat).1, rup X (381 + 301 * (nearN X tick.toNat lane place kind (X 6423).toNat).1.toNat + tick.toNat) 1) else if X 6423 = 20 then (-4, X) else (X 6423, newX X tick.toNat lane place kind)) else (-2, X)
theorem l_see7 {σ : am_S} (hS : WS (σ.1 71)) (hT : WT (σ.1 71)) (hN : WN (σ.1 71)) {tick : Nat} {lane place kind : Int} (htick : tick ≤ 300) (hl : 0 ≤ lane ∧ lane ≤ 3) (hp : 0 ≤ place ∧ place ≤ 60) (hkd : 0 ≤ kind ∧ kind ≤ 2) {Q : Option am_V → am_S → Prop} (hk2 : ∀ x : Option am_V, AW am_tab mX7_see 151 [some (vR 70), some (vI (tick : Nat)), some (vI lane), some (vI place), some (vI kind), some (vI (nearN (σ.1 71) tick lane place kind (σ.1 71 6423).toNat).1), some (vI (nearN (σ.1 71) tick lane place kind (σ.1 71 6423).toNat).2), some (vI (σ.1 71 6423).toNat), x] [] (am_row σ 74 301 (gn (σ.1 71))) Q) : ∀ i : Nat, i ≤ (σ.1 71 6423).toNat → ∀ x : Option am_V, AW am_tab mX7_see 62 [some (vR 70), some (vI (tick : Nat)), some (vI lane), some (vI place), some (vI kind), some (vI (nearN (σ.1 71) tick lane place kind i).1), some (vI (nearN (σ.1 71) tick lane place kind i).2), some (vI i), x] [] (am_row σ 74 301 (gn (σ.1 71))) Q :=
  up_loop (fun i hi ih x => by
    have hX := (am_row_other (σ := σ) (a := 74) (a' := 71) (n := 301) (g := gn (σ.1 71)) (by decide))
    have hM := hT.1
    have hb := nearN_b hN (tick := tick) (lane := lane) (place := place) (kind := kind) i
    refine AW_iload dX7_see_62 rfl ?_
    refine AW_aload_n dX7_see_64 rfl ?_
    refine AW_get dX7_see_65 fX7_7 rfl rfl ?_
    refine AW_sipush dX7_see_68 (by decide) ?_
    refine AW_ialdN (j := 6423) dX7_see_71 rfl (Nat.le_of_ble_eq_true rfl) (by omega) (by omega) ?_
    refine AW_icmp_ge 151 dX7_see_72 (by decide) (by omega) (by rw [hX]; omega) (fun h72 => ?_) (fun h72 => ?_)
    · have e : i = (σ.1 71 6423).toNat := by rw [hX] at h72; omega
      subst e
      exact hk2 _
    · have hp := plc_b hS hT (k := i) (t := tick) (by rw [hX] at h72; omega) htick
      have hk2 := hT.2 i (by rw [hX] at h72; omega)
      refine AW_aload_n dX7_see_75 rfl ?_
      refine AW_iload dX7_see_76 rfl ?_
      refine AW_iload_n dX7_see_78 rfl ?_
      refine AW_cVI2 dX7_see_79 kX7_75 (am_fit_b rfl) rfl rfl (Nat.le_of_ble_eq_true rfl) (c_placeOf7 (σ := (am_row σ 74 301 (gn (σ.1 71)))) (by rw [hX]; exact hS) (by rw [hX]; exact hT) gl_row (by rw [hX]; rw [hX] at h72; omega) htick) (fun z σ' hq => ?_)
      obtain ⟨hz, hs⟩ := hq
      rw [hX] at hz
      subst hz
      replace hs := hs.symm
      subst hs
      refine AW_iload_n dX7_see_82 rfl ?_
      refine AW_isub dX7_see_83 ?_
      refine AW_cSI1 dX7_see_84 kX7_79 (am_fit_b rfl) (Nat.le_of_ble_eq_true rfl) (c_size7 (by omega)) (fun z σ' hq => ?_)
      obtain ⟨hz, hs⟩ := hq
      replace hz := hz.symm
      subst hz
      replace hs := hs.symm
      subst hs
      refine AW_istore (lv' := [_, _, _, _, _, _, _, _, _]) dX7_see_87 (by decide) (Nat.le_of_ble_eq_true rfl) rfl ?_
      refine AW_aload_n dX7_see_89 rfl ?_
      refine AW_get dX7_see_90 fX7_7 rfl rfl ?_
      refine AW_sipush dX7_see_93 (by decide) ?_
      refine AW_iload dX7_see_96 rfl ?_
      refine AW_iadd dX7_see_98 ?_
      refine AW_ialdN (j := 321 + i) dX7_see_99 rfl (Nat.le_of_ble_eq_true rfl) (by omega) (by omega) ?_
      refine AW_iload_n dX7_see_100 rfl ?_
      rw [hX]
      refine AW_icmp_ne 145 dX7_see_101 (by decide) (by omega) (by omega) (fun h101 => ?_) (fun h101 => ?_)
      · refine AW_iinc (lv' := [_, _, _, _, _, _, _, _, _]) dX7_see_145 rfl (by decide) rfl ?_
        refine AW_goto (tgt := 62) dX7_see_148 (by decide) ?_
        rw [hX] at h72
        try rw [hX] at h124
        have e : nearN (σ.1 71) tick lane place kind (i + 1) = nearN (σ.1 71) tick lane place kind i := by
          simp only [nearN]
          rw [if_neg (by omega)]
        have h9 := ih (by omega) (some (vI ((plc (σ.1 71) i tick - place).natAbs : Int)))
        rw [e] at h9
        exact h9
      · refine AW_aload_n dX7_see_104 rfl ?_
        refine AW_get dX7_see_105 fX7_7 rfl rfl ?_
        refine AW_sipush dX7_see_108 (by decide) ?_
        refine AW_iload dX7_see_111 rfl ?_
        refine AW_iadd dX7_see_113 ?_
        refine AW_ialdN (j := 361 + i) dX7_see_114 rfl (Nat.le_of_ble_eq_true rfl) (by omega) (by omega) ?_
        refine AW_iload dX7_see_115 rfl ?_
        rw [hX]
        refine AW_icmp_ne 145 dX7_see_117 (by decide) (by omega) (by omega) (fun h117 => ?_) (fun h117 => ?_)
        · refine AW_iinc (lv' := [_, _, _, _, _, _, _, _, _]) dX7_see_145 rfl (by decide) rfl ?_
          refine AW_goto (tgt := 62) dX7_see_148 (by decide) ?_
          rw [hX] at h72
          try rw [hX] at h124
          have e : nearN (σ.1 71) tick lane place kind (i + 1) = nearN (σ.1 71) tick lane place kind i := by
            simp only [nearN]
            rw [if_neg (by omega)]
          have h9 := ih (by omega) (some (vI ((plc (σ.1 71) i tick - place).natAbs : Int)))
          rw [e] at h9
          exact h9
        · refine AW_aload_n dX7_see_120 rfl ?_
          refine AW_iload dX7_see_121 rfl ?_
          refine AW_iload_n dX7_see_123 rfl ?_
          refine AW_cVI2 dX7_see_124 kX7_82 (am_fit_b rfl) rfl rfl (Nat.le_of_ble_eq_true rfl) (c_wasSeen7 (σ := (am_row σ 74 301 (gn (σ.1 71)))) (by rw [hX]; exact hT) (by rw [hX]; rw [hX] at h72; omega) htick) (fun z σ' hq => ?_)
          obtain ⟨rfl, ⟨rfl, h124⟩ | ⟨rfl, h124⟩⟩ := hq
          · refine AW_if_ne 145 dX7_see_127 (by decide) (by decide) (fun _ => ?_) (fun h => absurd (by decide) h)
            refine AW_iinc (lv' := [_, _, _, _, _, _, _, _, _]) dX7_see_145 rfl (by decide) rfl ?_
            refine AW_goto (tgt := 62) dX7_see_148 (by decide) ?_
            rw [hX] at h72
            try rw [hX] at h124
            have e : nearN (σ.1 71) tick lane place kind (i + 1) = nearN (σ.1 71) tick lane place kind i := by
              simp only [nearN]
              rw [if_neg (by omega)]
            have h9 := ih (by omega) (some (vI ((plc (σ.1 71) i tick - place).natAbs : Int)))
            rw [e] at h9
            exact h9
          · refine AW_if_ne 145 dX7_see_127 (by decide) (by decide) (fun h => absurd h (by decide)) (fun _ => ?_)
            refine AW_iload dX7_see_130 rfl ?_
            refine AW_iload dX7_see_132 rfl ?_
            refine AW_icmp_ge 145 dX7_see_134 (by decide) (by omega) (by omega) (fun h134 => ?_) (fun h134 => ?_)
            · refine AW_iinc (lv' := [_, _, _, _, _, _, _, _, _]) dX7_see_145 rfl (by decide) rfl ?_
              refine AW_goto (tgt := 62) dX7_see_148 (by decide) ?_
              rw [hX] at h72
              try rw [hX] at h124
              have e : nearN (σ.1 71) tick lane place kind (i + 1) = nearN (σ.1 71) tick lane place kind i := by
                simp only [nearN]
                rw [if_neg (by omega)]
              have h9 := ih (by omega) (some (vI ((plc (σ.1 71) i tick - place).natAbs : Int)))
              rw [e] at h9
              exact h9
            · rw [hX] at h72 h124
              refine AW_iload dX7_see_137 rfl ?_
              refine AW_istore (lv' := [_, _, _, _, _, _, _, _, _]) dX7_see_139 (by decide) (Nat.le_of_ble_eq_true rfl) rfl ?_
              refine AW_iload dX7_see_141 rfl ?_
              refine AW_istore (lv' := [_, _, _, _, _, _, _, _, _]) dX7_see_143 (by decide) (Nat.le_of_ble_eq_true rfl) rfl ?_
              refine AW_iinc (lv' := [_, _, _, _, _, _, _, _, _]) dX7_see_145 rfl (by decide) rfl ?_
              refine AW_goto (tgt := 62) dX7_see_148 (by decide) ?_
              have e : nearN (σ.1 71) tick lane place kind (i + 1) = ((i : Int), ((plc (σ.1 71) i tick - place).natAbs : Int)) := by
                simp only [nearN]
                rw [if_pos (by omega)]
              have h9 := ih (by omega) (some (vI ((plc (σ.1 71) i tick - place).natAbs : Int)))
              rw [e] at h9
              exact h9)
theorem l_see7z {σ0 : am_S} {tick n : Nat} {lane place kind : Int} {b x : Option am_V} {Y : Row} (hn : n < 20) {Q : Option am_V → am_S → Prop} (hk2 : ∀ (σ : am_S) {Z : Row}, MS σ0 σ Z → (∀ j, Z j = if 381 + 301 * n ≤ j ∧ j < 381 + 301 * n + 301 then 0 else Y j) → AW am_tab mX7_see 261 [some (vR 70), some (vI (tick : Nat)), some (vI lane), some (vI place), some (vI kind), some (vI (n : Nat)), b, some (vI (301 : Nat)), x] [] σ Q) : ∀ i : Nat, i ≤ 301 → ∀ (σ : am_S) {Z : Row}, MS σ0 σ Z → (∀ j, Z j = if 381 + 301 * n ≤ j ∧ j < 381 + 301 * n + i then 0 else Y j) → AW am_tab mX7_see 228 [some (vR 70), some (vI (tick : Nat)), some (vI lane), some (vI place), some (vI kind), some (vI (n : Nat)), b, some (vI i), x] [] σ Q :=
  up_loop (fun i hi ih σ Z hM hE => by
    refine AW_iload dX7_see_228 rfl ?_
    refine AW_sipush dX7_see_230 (by decide) ?_
    refine AW_icmp_ge 261 dX7_see_233 (by decide) (by omega) (by omega) (fun h233 => ?_) (fun h233 => ?_)
    · have e : i = 301 := by omega
      subst e
      exact hk2 _ hM hE
    · refine AW_aload_n dX7_see_236 rfl ?_
      refine AW_get dX7_see_237 fX7_7 rfl rfl ?_
      refine AW_sipush dX7_see_240 (by decide) ?_
      refine AW_sipush dX7_see_243 (by decide) ?_
      refine AW_iload dX7_see_246 rfl ?_
      refine AW_imul dX7_see_248 ?_
      refine AW_iadd dX7_see_249 ?_
      refine AW_iload dX7_see_250 rfl ?_
      refine AW_iadd dX7_see_252 ?_
      refine AW_iconst dX7_see_253 ?_
      refine AW_iastN (j := 381 + 301 * n + i) dX7_see_254 rfl (Nat.le_of_ble_eq_true rfl) (by omega) (by omega) ?_
      refine AW_iinc (lv' := [_, _, _, _, _, _, _, _, _]) dX7_see_255 rfl (by decide) rfl ?_
      refine AW_goto (tgt := 228) dX7_see_258 (by decide) ?_
      refine ih (by omega) _ hM.set ?_
      intro j
      simp only [rup]
      by_cases e : j = 381 + 301 * n + i
      · rw [if_pos e, if_pos (by omega)]
      · rw [if_neg e, hE j]
        by_cases e2 : 381 + 301 * n ≤ j ∧ j < 381 + 301 * n + i
        · rw [if_pos e2, if_pos (by omega)]
        · rw [if_neg e2, if_neg (by omega)])
theorem c_see7 {σ : am_S} (hS : WS (σ.1 71)) (hT : WT (σ.1 71)) (hN : WN (σ.1 71)) {tick lane place kind : Int} (htick : -2147483648 ≤ tick ∧ tick < 2147483648) (hlane : -2147483648 ≤ lane ∧ lane < 2147483648) (hplace : -2147483648 ≤ place ∧ place < 2147483648) (hkind : -2147483648 ≤ kind ∧ kind < 2147483648) : Runs am_tab mX7_see [vR 70, vI tick, vI lane, vI place, vI kind] σ (QI (fun z σ' => z = (seeS (σ.1 71) tick lane place kind).1 ∧ MS σ σ' (seeS (σ.1 71) tick lane place kind).2)) := by
  refine Runs.of (by decide) rfl (by simp) (Nat.le_of_ble_eq_true rfl) ?_
  show AW am_tab mX7_see 0 [some (vR 70), some (vI tick), some (vI lane), some (vI place), some (vI kind), none, none, none, none] [] σ _
  refine AW_iload_n dX7_see_0 rfl ?_
  refine AW_cSI1 dX7_see_1 kX7_60 (am_fit_b rfl) (Nat.le_of_ble_eq_true rfl) (c_isTick7 htick) (fun z σ' hq => ?_)
  obtain ⟨rfl, ⟨rfl, h1⟩ | ⟨rfl, h1⟩⟩ := hq
  · refine AW_if_eq 36 dX7_see_4 (by decide) (by decide) (fun h => absurd h (by decide)) (fun _ => ?_)
    refine AW_iload_n dX7_see_7 rfl ?_
    refine AW_iconst dX7_see_8 ?_
    refine AW_iconst dX7_see_9 ?_
    refine AW_cSI3 dX7_see_10 kX7_56 (am_fit_b rfl) (Nat.le_of_ble_eq_true rfl) (c_in hlane (by omega) (by omega)) (fun z σ' hq => ?_)
    obtain ⟨rfl, ⟨rfl, h10⟩ | ⟨rfl, h10⟩⟩ := hq
    · refine AW_if_eq 36 dX7_see_13 (by decide) (by decide) (fun h => absurd h (by decide)) (fun _ => ?_)
      refine AW_iload_n dX7_see_16 rfl ?_
      refine AW_iconst dX7_see_17 ?_
      refine AW_bipush dX7_see_18 (by decide) ?_
      refine AW_cSI3 dX7_see_20 kX7_56 (am_fit_b rfl) (Nat.le_of_ble_eq_true rfl) (c_in hplace (by omega) (by omega)) (fun z σ' hq => ?_)
      obtain ⟨rfl, ⟨rfl, h20⟩ | ⟨rfl, h20⟩⟩ := hq
      · refine AW_if_eq 36 dX7_see_23 (by decide) (by decide) (fun h => absurd h (by decide)) (fun _ => ?_)
        refine AW_iload dX7_see_26 rfl ?_
        refine AW_iconst dX7_see_28 ?_
        refine AW_iconst dX7_see_29 ?_
        refine AW_cSI3 dX7_see_30 kX7_56 (am_fit_b rfl) (Nat.le_of_ble_eq_true rfl) (c_in hkind (by omega) (by omega)) (fun z σ' hq => ?_)
        obtain ⟨rfl, ⟨rfl, h30⟩ | ⟨rfl, h30⟩⟩ := hq
        · refine AW_if_ne 39 dX7_see_33 (by decide) (by decide) (fun _ => ?_) (fun h => absurd (by decide) h)
          obtain ⟨t, rfl⟩ : ∃ t : Nat, tick = t := ⟨tick.toNat, by omega⟩
          have hX := (am_row_other (σ := σ) (a := 74) (a' := 71) (n := 301) (g := gn (σ.1 71)) (by decide))
          refine AW_aload_n dX7_see_39 rfl ?_
          refine AW_cVV0 dX7_see_40 kX7_72 (am_fit_b rfl) rfl rfl (Nat.le_of_ble_eq_true rfl) (c_layGone7 hS) (fun σ' hq => ?_)
          replace hq := hq.symm
          subst hq
          refine AW_bipush dX7_see_43 (by decide) ?_
          refine AW_istore (lv' := [_, _, _, _, _, _, _, _, _]) dX7_see_45 (by decide) (Nat.le_of_ble_eq_true rfl) rfl ?_
          refine AW_aload_n dX7_see_47 rfl ?_
          refine AW_get dX7_see_48 fX7_7 rfl rfl ?_
          refine AW_sipush dX7_see_51 (by decide) ?_
          refine AW_ialdN (j := 6421) dX7_see_54 rfl (Nat.le_of_ble_eq_true rfl) (by omega) (by omega) ?_
          refine AW_iconst dX7_see_55 ?_
          refine AW_iadd dX7_see_56 ?_
          refine AW_istore (lv' := [_, _, _, _, _, _, _, _, _]) dX7_see_57 (by decide) (Nat.le_of_ble_eq_true rfl) rfl ?_
          refine AW_iconst dX7_see_59 ?_
          refine AW_istore (lv' := [_, _, _, _, _, _, _, _, _]) dX7_see_60 (by decide) (Nat.le_of_ble_eq_true rfl) rfl ?_
          rw [hX]
          refine l_see7 hS hT hN (by omega) h10 h20 h30 (fun x => ?_) 0 (by omega) none
          have hb := nearN_b hN (tick := t) (lane := lane) (place := place) (kind := kind) (σ.1 71 6423).toNat
          have hM := hT.1
          refine AW_iload dX7_see_151 rfl ?_
          refine AW_if_ge 273 dX7_see_153 (by decide) (by omega) (fun h153 => ?_) (fun h153 => ?_)
          · obtain ⟨b, hbe⟩ : ∃ b : Nat, (nearN (σ.1 71) t lane place kind (σ.1 71 6423).toNat).1 = b := ⟨_, (Int.toNat_of_nonneg (by omega)).symm⟩
            rw [hbe]
            refine AW_aload_n dX7_see_273 rfl ?_
            refine AW_get dX7_see_274 fX7_7 rfl rfl ?_
            refine AW_sipush dX7_see_277 (by decide) ?_
            refine AW_sipush dX7_see_280 (by decide) ?_
            refine AW_iload dX7_see_283 rfl ?_
            refine AW_imul dX7_see_285 ?_
            refine AW_iadd dX7_see_286 ?_
            refine AW_iload_n dX7_see_287 rfl ?_
            refine AW_iadd dX7_see_288 ?_
            refine AW_iconst dX7_see_289 ?_
            refine AW_iastN (j := 381 + 301 * b + t) dX7_see_290 rfl (Nat.le_of_ble_eq_true rfl) (by omega) (by omega) ?_
            refine AW_iload dX7_see_291 rfl ?_
            refine AW_iret dX7_see_293 rfl ?_
            refine ⟨_, rfl, ?_⟩
            simp only [seeS, Int.toNat_natCast]
            rw [if_pos (by omega), if_pos (by omega), hbe, Int.toNat_natCast]
            exact ⟨rfl, (MS.rf.row (by decide)).set⟩
          · refine AW_aload_n dX7_see_156 rfl ?_
            refine AW_get dX7_see_157 fX7_7 rfl rfl ?_
            refine AW_sipush dX7_see_160 (by decide) ?_
            refine AW_ialdN (j := 6423) dX7_see_163 rfl (Nat.le_of_ble_eq_true rfl) (by omega) (by omega) ?_
            refine AW_istore (lv' := [_, _, _, _, _, _, _, _, _]) dX7_see_164 (by decide) (Nat.le_of_ble_eq_true rfl) rfl ?_
            rw [hX]
            obtain ⟨n, hne⟩ : ∃ n : Nat, σ.1 71 6423 = n := ⟨_, (Int.toNat_of_nonneg (by omega)).symm⟩
            rw [hne]
            refine AW_iload dX7_see_166 rfl ?_
            refine AW_bipush dX7_see_168 (by decide) ?_
            refine AW_icmp_ne 176 dX7_see_170 (by decide) (by omega) (by omega) (fun h170 => ?_) (fun h170 => ?_)
            · refine AW_aload_n dX7_see_176 rfl ?_
              refine AW_get dX7_see_177 fX7_7 rfl rfl ?_
              refine AW_sipush dX7_see_180 (by decide) ?_
              refine AW_iload dX7_see_183 rfl ?_
              refine AW_iadd dX7_see_185 ?_
              refine AW_iload_n dX7_see_186 rfl ?_
              refine AW_iastN (j := 301 + n) dX7_see_187 rfl (Nat.le_of_ble_eq_true rfl) (by omega) (by omega) ?_
              refine AW_aload_n dX7_see_188 rfl ?_
              refine AW_get dX7_see_189 fX7_7 rfl rfl ?_
              refine AW_sipush dX7_see_192 (by decide) ?_
              refine AW_iload dX7_see_195 rfl ?_
              refine AW_iadd dX7_see_197 ?_
              refine AW_iload_n dX7_see_198 rfl ?_
              refine AW_iastN (j := 321 + n) dX7_see_199 rfl (Nat.le_of_ble_eq_true rfl) (by omega) (by omega) ?_
              refine AW_aload_n dX7_see_200 rfl ?_
              refine AW_get dX7_see_201 fX7_7 rfl rfl ?_
              refine AW_sipush dX7_see_204 (by decide) ?_
              refine AW_iload dX7_see_207 rfl ?_
              refine AW_iadd dX7_see_209 ?_
              refine AW_iload_n dX7_see_210 rfl ?_
              refine AW_iastN (j := 341 + n) dX7_see_211 rfl (Nat.le_of_ble_eq_true rfl) (by omega) (by omega) ?_
              refine AW_aload_n dX7_see_212 rfl ?_
              refine AW_get dX7_see_213 fX7_7 rfl rfl ?_
              refine AW_sipush dX7_see_216 (by decide) ?_
              refine AW_iload dX7_see_219 rfl ?_
              refine AW_iadd dX7_see_221 ?_
              refine AW_iload dX7_see_222 rfl ?_
              refine AW_iastN (j := 361 + n) dX7_see_224 rfl (Nat.le_of_ble_eq_true rfl) (by omega) (by omega) ?_
              refine AW_iconst dX7_see_225 ?_
              refine AW_istore (lv' := [_, _, _, _, _, _, _, _, _]) dX7_see_226 (by decide) (Nat.le_of_ble_eq_true rfl) rfl ?_
              have hM0 : MS σ (am_row σ 74 301 (gn (σ.1 71))) (σ.1 71) := MS.rf.row (by decide)
              have h9 := hM0.set (j := 301 + n) (x := (t : Int))
              have h9 := h9.set (j := 321 + n) (x := lane)
              have h9 := h9.set (j := 341 + n) (x := place)
              have h9 := h9.set (j := 361 + n) (x := kind)
              refine l_see7z (σ0 := σ) (Y := rup (rup (rup (rup (σ.1 71) (301 + n) t) (321 + n) lane) (341 + n) place) (361 + n) kind) (by omega) (fun σ2 Z hZ hE => ?_) 0 (by omega) _ h9 (fun j => by rw [if_neg (by omega)])
              refine AW_aload_n dX7_see_261 rfl ?_
              refine AW_get dX7_see_262 fX7_7 rfl rfl ?_
              refine AW_sipush dX7_see_265 (by decide) ?_
              refine AW_dup2 dX7_see_268 ?_
              refine AW_ialdN (j := 6423) dX7_see_269 rfl (Nat.le_of_ble_eq_true rfl) (by omega) (by omega) ?_
              refine AW_iconst dX7_see_270 ?_
              refine AW_iadd dX7_see_271 ?_
              refine AW_iastN (j := 6423) dX7_see_272 rfl (Nat.le_of_ble_eq_true rfl) (by omega) (by omega) ?_
              refine AW_aload_n dX7_see_273 rfl ?_
              refine AW_get dX7_see_274 fX7_7 rfl rfl ?_
              refine AW_sipush dX7_see_277 (by decide) ?_
              refine AW_sipush dX7_see_280 (by decide) ?_
              refine AW_iload dX7_see_283 rfl ?_
              refine AW_imul dX7_see_285 ?_
              refine AW_iadd dX7_see_286 ?_
              refine AW_iload_n dX7_see_287 rfl ?_
              refine AW_iadd dX7_see_288 ?_
              refine AW_iconst dX7_see_289 ?_
              refine AW_iastN (j := 381 + 301 * n + t) dX7_see_290 rfl (Nat.le_of_ble_eq_true rfl) (by omega) (by omega) ?_
              refine AW_iload dX7_see_291 rfl ?_
              refine AW_iret dX7_see_293 rfl ?_
              refine ⟨_, rfl, ?_⟩
              simp only [seeS, Int.toNat_natCast]
              rw [if_pos (by omega), if_neg (by omega), if_neg (by omega)]
              refine ⟨hne.symm, ?_⟩
              have hF := (hZ.set (j := 6423) (x := σ2.1 71 6423 + 1)).set (j := 381 + 301 * n + t) (x := 1)
              refine ⟨hF.1.trans ?_, hF.2⟩
              funext j
              have e6 : σ2.1 71 6423 = n := by
                rw [hZ.1, hE 6423, if_neg (by omega)]
                simp only [rup]
                rw [if_neg (by omega), if_neg (by omega), if_neg (by omega), if_neg (by omega), hne]
              simp only [newX, e6, hne, Int.toNat_natCast]
              simp only [rup, hE j]
              by_cases c1 : j = 6423
              · subst c1
                rw [if_neg (by omega), if_pos rfl, if_pos rfl]
              by_cases c2 : j = 381 + 301 * n + t
              · simp only [if_neg c1, if_pos c2]
              simp only [if_neg c1, if_neg c2]
            · refine AW_bipush dX7_see_173 (by decide) ?_
              refine AW_iret dX7_see_175 rfl ?_
              refine ⟨_, rfl, ?_⟩
              simp only [seeS, Int.toNat_natCast]
              rw [if_pos (by omega), if_neg (by omega), if_pos (by omega)]
              exact ⟨rfl, MS.rf.row (by decide)⟩
        · refine AW_if_ne 39 dX7_see_33 (by decide) (by decide) (fun h => absurd h (by decide)) (fun _ => ?_)
          refine AW_bipush dX7_see_36 (by decide) ?_
          refine AW_iret dX7_see_38 rfl ?_
          refine ⟨_, rfl, ?_⟩
          simp only [seeS]
          rw [if_neg (by omega)]
          exact ⟨rfl, MS.rf⟩
      · refine AW_if_eq 36 dX7_see_23 (by decide) (by decide) (fun _ => ?_) (fun h => absurd (by decide) h)
        refine AW_bipush dX7_see_36 (by decide) ?_
        refine AW_iret dX7_see_38 rfl ?_
        refine ⟨_, rfl, ?_⟩
        simp only [seeS]
        rw [if_neg (by omega)]
        exact ⟨rfl, MS.rf⟩
    · refine AW_if_eq 36 dX7_see_13 (by decide) (by decide) (fun _ => ?_) (fun h => absurd (by decide) h)
      refine AW_bipush dX7_see_36 (by decide) ?_
      refine AW_iret dX7_see_38 rfl ?_
      refine ⟨_, rfl, ?_⟩
      simp only [seeS]
      rw [if_neg (by omega)]
      exact ⟨rfl, MS.rf⟩
  · refine AW_if_eq 36 dX7_see_4 (by decide) (by decide) (fun _ => ?_) (fun h => absurd (by decide) h)
    refine AW_bipush dX7_see_36 (by decide) ?_
    refine AW_iret dX7_see_38 rfl ?_
    refine ⟨_, rfl, ?_⟩
    simp only [seeS]
    rw [if_neg (by omega)]
    exact ⟨rfl, MS.rf⟩
