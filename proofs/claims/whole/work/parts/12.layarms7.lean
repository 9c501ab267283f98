/-- which ARM takes THING k at TICK t, laid for the first n places -/
def laS (σ : am_S) (w : Int) (n : Nat) : am_S := am_row (am_row σ 74 301 (gn (σ.1 71))) 75 n (armR (σ.1 71) w)
theorem laS_71 {σ : am_S} {w : Int} {n : Nat} : (laS σ w n).1 71 = σ.1 71 := by
  unfold laS
  rw [am_row_other (by decide), am_row_other (by decide)]
theorem laS_74 {σ : am_S} {w : Int} {n : Nat} : ∀ t, t ≤ 300 → (laS σ w n).1 74 t = gn ((laS σ w n).1 71) t := by
  intro t ht
  rw [laS_71]
  unfold laS
  rw [am_row_other (by decide), am_row_at (by omega)]
theorem laS_s {σ : am_S} {w : Int} {k t : Nat} (ht : t < 301) : am_up (laS σ w (301 * k + t)) 75 (301 * k + t) (avX (σ.1 71) w k t 4) = laS σ w (301 * k + (t + 1)) := by
  unfold laS
  rw [am_row_s]
  · rw [Nat.add_assoc]
  · unfold armR
    rw [show (301 * k + t) / 301 = k by omega, show (301 * k + t) % 301 = t by omega]
theorem laS_MS {σ : am_S} {w : Int} {n : Nat} : MS σ (laS σ w n) (σ.1 71) := (MS.rf.row (by decide)).row (by decide)
theorem l_layArms7a {σ : am_S} (hS : WS (σ.1 71)) (hT : WT (σ.1 71)) (hA : WA (σ.1 71)) {w : Int} (hw : -2147483648 ≤ w ∧ w < 2147483648) {k t : Nat} (hk : (k : Int) < σ.1 71 6423) (ht : t < 301) {Q : Option am_V → am_S → Prop} (hk2 : AW am_tab mX7_layArms 72 [some (vR 70), some (vI w), some (vI k), some (vI t), some (vI (avX (σ.1 71) w k t 4)), some (vI (4 : Nat))] [] (laS σ w (301 * k + t)) Q) : ∀ a : Nat, a ≤ 4 → AW am_tab mX7_layArms 34 [some (vR 70), some (vI w), some (vI k), some (vI t), some (vI (avX (σ.1 71) w k t a)), some (vI a)] [] (laS σ w (301 * k + t)) Q :=
  up_loop (fun a ha ih => by
    refine AW_iload dX7_layArms_34 rfl ?_
    refine AW_iconst dX7_layArms_36 ?_
    refine AW_icmp_ge 72 dX7_layArms_37 (by decide) (by omega) (by omega) (fun h37 => ?_) (fun h37 => ?_)
    · have e : a = 4 := by omega
      subst e
      exact hk2
    · refine AW_iload dX7_layArms_40 rfl ?_
      refine AW_iload_n dX7_layArms_42 rfl ?_
      refine AW_icmp_eq 62 dX7_layArms_43 (by decide) (by omega) (by omega) (fun h43 => ?_) (fun h43 => ?_)
      · have e : avX (σ.1 71) w k t (a + 1) = avX (σ.1 71) w k t a := by
          simp only [avX]
          first
          | (rw [laS_71] at h51; rw [if_neg (fun h => h51 h.2)])
          | (rw [if_neg (by omega)])
        refine AW_iload dX7_layArms_62 rfl ?_
        refine AW_istore (lv' := [_, _, _, _, _, _]) dX7_layArms_64 (by decide) (Nat.le_of_ble_eq_true rfl) rfl ?_
        refine AW_iinc (lv' := [_, _, _, _, _, _]) dX7_layArms_66 rfl (by decide) rfl ?_
        refine AW_goto (tgt := 34) dX7_layArms_69 (by decide) ?_
        have h9 := ih (by omega)
        rw [e] at h9
        exact h9
      · refine AW_aload_n dX7_layArms_46 rfl ?_
        refine AW_iload dX7_layArms_47 rfl ?_
        refine AW_iload_n dX7_layArms_49 rfl ?_
        refine AW_iload_n dX7_layArms_50 rfl ?_
        refine AW_cVI3 dX7_layArms_51 kX7_92 (am_fit_b rfl) rfl rfl (Nat.le_of_ble_eq_true rfl) (c_canTake7 (σ := (laS σ w (301 * k + t))) (by rw [laS_71]; exact hS) (by rw [laS_71]; exact hT) (by rw [laS_71]; exact hA) laS_74 (by omega) (by rw [laS_71]; exact hk) (by omega)) (fun z σ' hq => ?_)
        obtain ⟨rfl, ⟨rfl, h51⟩ | ⟨rfl, h51⟩⟩ := hq
        · refine AW_if_eq 62 dX7_layArms_54 (by decide) (by decide) (fun h => absurd h (by decide)) (fun _ => ?_)
          rw [laS_71] at h51
          have e : avX (σ.1 71) w k t (a + 1) = a := by simp only [avX]; rw [if_pos ⟨by omega, h51⟩]
          refine AW_iload dX7_layArms_57 rfl ?_
          refine AW_goto (tgt := 64) dX7_layArms_59 (by decide) ?_
          refine AW_istore (lv' := [_, _, _, _, _, _]) dX7_layArms_64 (by decide) (Nat.le_of_ble_eq_true rfl) rfl ?_
          refine AW_iinc (lv' := [_, _, _, _, _, _]) dX7_layArms_66 rfl (by decide) rfl ?_
          refine AW_goto (tgt := 34) dX7_layArms_69 (by decide) ?_
          have h9 := ih (by omega)
          rw [e] at h9
          exact h9
        · refine AW_if_eq 62 dX7_layArms_54 (by decide) (by decide) (fun _ => ?_) (fun h => absurd (by decide) h)
          have e : avX (σ.1 71) w k t (a + 1) = avX (σ.1 71) w k t a := by
            simp only [avX]
            first
            | (rw [laS_71] at h51; rw [if_neg (fun h => h51 h.2)])
            | (rw [if_neg (by omega)])
          refine AW_iload dX7_layArms_62 rfl ?_
          refine AW_istore (lv' := [_, _, _, _, _, _]) dX7_layArms_64 (by decide) (Nat.le_of_ble_eq_true rfl) rfl ?_
          refine AW_iinc (lv' := [_, _, _, _, _, _]) dX7_layArms_66 rfl (by decide) rfl ?_
          refine AW_goto (tgt := 34) dX7_layArms_69 (by decide) ?_
          have h9 := ih (by omega)
          rw [e] at h9
          exact h9)
theorem l_layArms7t {σ : am_S} (hS : WS (σ.1 71)) (hT : WT (σ.1 71)) (hA : WA (σ.1 71)) {w : Int} (hw : -2147483648 ≤ w ∧ w < 2147483648) {k : Nat} (hk : (k : Int) < σ.1 71 6423) {Q : Option am_V → am_S → Prop} (hk2 : ∀ x y : Option am_V, AW am_tab mX7_layArms 92 [some (vR 70), some (vI w), some (vI k), some (vI (301 : Nat)), x, y] [] (laS σ w (301 * k + 301)) Q) : ∀ t : Nat, t ≤ 301 → ∀ x y : Option am_V, AW am_tab mX7_layArms 20 [some (vR 70), some (vI w), some (vI k), some (vI t), x, y] [] (laS σ w (301 * k + t)) Q :=
  up_loop (fun t ht ih x y => by
    refine AW_iload_n dX7_layArms_20 rfl ?_
    refine AW_sipush dX7_layArms_21 (by decide) ?_
    refine AW_icmp_ge 92 dX7_layArms_24 (by decide) (by omega) (by omega) (fun h24 => ?_) (fun h24 => ?_)
    · have e : t = 301 := by omega
      subst e
      exact hk2 _ _
    · refine AW_bipush dX7_layArms_27 (by decide) ?_
      refine AW_istore (lv' := [_, _, _, _, _, _]) dX7_layArms_29 (by decide) (Nat.le_of_ble_eq_true rfl) rfl ?_
      refine AW_iconst dX7_layArms_31 ?_
      refine AW_istore (lv' := [_, _, _, _, _, _]) dX7_layArms_32 (by decide) (Nat.le_of_ble_eq_true rfl) rfl ?_
      refine l_layArms7a hS hT hA hw hk (by omega) ?_ 0 (by omega)
      have hM := hT.1
      refine AW_aload_n dX7_layArms_72 rfl ?_
      refine AW_get dX7_layArms_73 fX7_23 rfl rfl ?_
      refine AW_sipush dX7_layArms_76 (by decide) ?_
      refine AW_iload_n dX7_layArms_79 rfl ?_
      refine AW_imul dX7_layArms_80 ?_
      refine AW_iload_n dX7_layArms_81 rfl ?_
      refine AW_iadd dX7_layArms_82 ?_
      refine AW_iload dX7_layArms_83 rfl ?_
      refine AW_iastN (j := 301 * k + t) dX7_layArms_85 rfl (Nat.le_of_ble_eq_true rfl) (by omega) (by omega) ?_
      refine AW_iinc (lv' := [_, _, _, _, _, _]) dX7_layArms_86 rfl (by decide) rfl ?_
      refine AW_goto (tgt := 20) dX7_layArms_89 (by decide) ?_
      rw [laS_s (by omega)]
      exact ih (by omega) _ _)
theorem l_layArms7k {σ : am_S} (hS : WS (σ.1 71)) (hT : WT (σ.1 71)) (hA : WA (σ.1 71)) {w : Int} (hw : -2147483648 ≤ w ∧ w < 2147483648) {Q : Option am_V → am_S → Prop} (hQ : Q none (laS σ w (301 * (σ.1 71 6423).toNat))) : ∀ k : Nat, k ≤ (σ.1 71 6423).toNat → ∀ z x y : Option am_V, AW am_tab mX7_layArms 6 [some (vR 70), some (vI w), some (vI k), z, x, y] [] (laS σ w (301 * k)) Q :=
  up_loop (fun k hk0 ih z x y => by
    have hM := hT.1
    refine AW_iload_n dX7_layArms_6 rfl ?_
    refine AW_aload_n dX7_layArms_7 rfl ?_
    refine AW_get dX7_layArms_8 fX7_7 rfl rfl ?_
    refine AW_sipush dX7_layArms_11 (by decide) ?_
    refine AW_ialdN (j := 6423) dX7_layArms_14 rfl (Nat.le_of_ble_eq_true rfl) (by omega) (by omega) ?_
    refine AW_icmp_ge 98 dX7_layArms_15 (by decide) (by omega) (by rw [laS_71]; omega) (fun h15 => ?_) (fun h15 => ?_)
    · have e : k = (σ.1 71 6423).toNat := by rw [laS_71] at h15; omega
      subst e
      refine AW_vret dX7_layArms_98 rfl ?_
      exact hQ
    · refine AW_iconst dX7_layArms_18 ?_
      refine AW_istore_n (i := 3) (lv' := [_, _, _, _, _, _]) dX7_layArms_19 rfl (by decide) (Nat.le_of_ble_eq_true rfl) rfl ?_
      refine l_layArms7t hS hT hA hw (by rw [laS_71] at h15; omega) (fun x y => ?_) 0 (by omega) _ _
      refine AW_iinc (lv' := [_, _, _, _, _, _]) dX7_layArms_92 rfl (by decide) rfl ?_
      refine AW_goto (tgt := 6) dX7_layArms_95 (by decide) ?_
      exact ih (by rw [laS_71] at h15; omega) _ _ _)
theorem c_layArms7 {σ : am_S} (hS : WS (σ.1 71)) (hT : WT (σ.1 71)) (hA : WA (σ.1 71)) {w : Int} (hw : -2147483648 ≤ w ∧ w < 2147483648) : Runs am_tab mX7_layArms [vR 70, vI w] σ (QV (fun σ' => σ' = laS σ w (301 * (σ.1 71 6423).toNat))) := by
  refine Runs.of (by decide) rfl (by simp) (Nat.le_of_ble_eq_true rfl) ?_
  show AW am_tab mX7_layArms 0 [some (vR 70), some (vI w), none, none, none, none] [] σ _
  refine AW_aload_n dX7_layArms_0 rfl ?_
  refine AW_cVV0 dX7_layArms_1 kX7_72 (am_fit_b rfl) rfl rfl (Nat.le_of_ble_eq_true rfl) (c_layGone7 hS) (fun σ' hq => ?_)
  replace hq := hq.symm
  subst hq
  refine AW_iconst dX7_layArms_4 ?_
  refine AW_istore_n (i := 2) (lv' := [_, _, _, _, _, _]) dX7_layArms_5 rfl (by decide) (Nat.le_of_ble_eq_true rfl) rfl ?_
  have h9 := l_layArms7k hS hT hA hw (Q := QV (fun σ' => σ' = laS σ w (301 * (σ.1 71 6423).toNat))) ⟨rfl, rfl⟩ 0 (by omega) none none none
  unfold laS at h9
  rw [Nat.mul_zero, am_row_0] at h9
  exact h9
