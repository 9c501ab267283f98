theorem q_len {q : Nat → Nat} {op n : Nat} (h1 : ∀ i j, i < op → j < op → q i = q j → i = j) (h2 : ∀ j, j < op → q j < n) : op ≤ n := by
  have hm : ((List.range op).map q).Nodup := nodup_map_on List.nodup_range (fun x hx y hy he => h1 x y (List.mem_range.mp hx) (List.mem_range.mp hy) he)
  have := nodup_sub_len hm (l2 := List.range n) (fun x hx => by
    obtain ⟨j, hj, rfl⟩ := List.mem_map.mp hx
    exact List.mem_range.mpr (h2 j (List.mem_range.mp hj)))
  simpa using this
def qadd (q : Nat → Nat) (op k : Nat) : Nat → Nat := fun j => if j = op then k else q j
theorem qadd_at {q : Nat → Nat} {op k j : Nat} (h : j = op) : qadd q op k j = k := if_pos h
theorem qadd_ne {q : Nat → Nat} {op k j : Nat} (h : j ≠ op) : qadd q op k j = q j := if_neg h
def bx_Ad (G : Row) (k : Nat) (s : Sl) : Prop := okS s ∧ G (301 * k + s.1) = s.2
def bx_Fd (Z : Row) (s : Sl) : Prop := Z (enc s) ≠ 0
/-- the search under way: thing q i is looked at, its TICKS below t are done -/
def Bfs (A : Nat → Sl → Prop) (F : Sl → Prop) (n : Nat) (f : Nat → Option Sl) (thing : Nat) (σ0 : am_S) (i t op : Nat) (q : Nat → Nat) (σ : am_S) : Prop :=
  Eqx [79, 80] σ0 σ ∧ Tree A F n f thing op (σ.1 80) q ∧ (∀ j, j < op → σ.1 79 j = q j) ∧ (∀ c, c < 1204 → σ.1 80 c ≠ -6 → ∃ j, j < op ∧ f (q j) = some (dec c)) ∧ ∀ j s, j < op → (j < i ∨ (j = i ∧ s.1 < t)) → A (q j) s → ¬ F s → σ.1 80 (enc s) ≠ -6
theorem Bfs.skip {A : Nat → Sl → Prop} {F : Sl → Prop} {n : Nat} {f : Nat → Option Sl} {thing : Nat} {σ0 σ : am_S} {i t op : Nat} {q : Nat → Nat} (h : Bfs A F n f thing σ0 i t op q σ) (hs : ∀ s, s.1 = t → A (q i) s → ¬ F s → σ.1 80 (enc s) ≠ -6) : Bfs A F n f thing σ0 i (t + 1) op q σ := by
  refine ⟨h.1, h.2.1, h.2.2.1, h.2.2.2.1, fun j s hj hc ha hF => ?_⟩
  by_cases e : j < i ∨ (j = i ∧ s.1 < t)
  · exact h.2.2.2.2 j s hj e ha hF
  · have e1 : j = i := by omega
    subst e1
    exact hs s (by omega) ha hF
theorem Bfs.next {G : Row} {F : Sl → Prop} {n : Nat} {f : Nat → Option Sl} {thing : Nat} {σ0 σ : am_S} {i op : Nat} {q : Nat → Nat} (h : Bfs (bx_Ad G) F n f thing σ0 i 301 op q σ) : Bfs (bx_Ad G) F n f thing σ0 (i + 1) 0 op q σ := by
  refine ⟨h.1, h.2.1, h.2.2.1, h.2.2.2.1, fun j s hj hc ha hF => h.2.2.2.2 j s hj ?_ ha hF⟩
  have := ha.1.1
  omega
/-- a slot that nobody came by yet -/
theorem Bfs.fresh {A : Nat → Sl → Prop} {F : Sl → Prop} {n : Nat} {f : Nat → Option Sl} {thing : Nat} {σ0 σ : am_S} {i t op : Nat} {q : Nat → Nat} {Tk So : Row} (h : Bfs A F n f thing σ0 i t op q σ) (hC : Con n Tk So f) {s : Sl} (hok : okS s) (hW : σ.1 80 (enc s) = -6) : ∀ j x, 0 < j → j < op → f (q j) = some x → enc x ≠ enc s := by
  intro j x h0 hj hx e
  obtain ⟨y, hy, i', hi', hw⟩ := h.2.1.2.2.2.2.1 j h0 hj
  rw [hx] at hy
  cases hy
  rw [e, hW] at hw
  omega
theorem Bfs.free {A : Nat → Sl → Prop} {F : Sl → Prop} {n : Nat} {f : Nat → Option Sl} {thing : Nat} {σ0 σ : am_S} {i t op : Nat} {q : Nat → Nat} {Tk So : Row} (h : Bfs A F n f thing σ0 i t op q σ) (hC : Con n Tk So f) (hi : i < op) {s : Sl} (hok : okS s) (hA : A (q i) s) (hF : ¬ F s) (hW : σ.1 80 (enc s) = -6) : Tree A F n f thing op (rup (σ.1 80) (enc s) (q i)) q := by
  have hfr := h.fresh hC hok hW
  obtain ⟨_, ⟨t1, t2, t3, t4, t5, t6⟩, _⟩ := h
  refine ⟨t1, t2, t3, t4, fun j h0 hj => ?_, fun c hc => ?_⟩
  · obtain ⟨x, hx, i', hi', hw⟩ := t5 j h0 hj
    refine ⟨x, hx, i', hi', ?_⟩
    simp only [rup, if_neg (hfr j x h0 hj hx)]
    exact hw
  · by_cases e : c = enc s
    · subst e
      exact Or.inr ⟨i, hi, by simp only [rup, if_true], by rw [dec_enc hok]; exact hA, by rw [dec_enc hok]; exact hF⟩
    · simp only [rup, if_neg e]
      exact t6 c hc
theorem Bfs.add {A : Nat → Sl → Prop} {F : Sl → Prop} {n : Nat} {f : Nat → Option Sl} {thing : Nat} {σ0 σ : am_S} {i t op : Nat} {q : Nat → Nat} {Tk So : Row} (h : Bfs A F n f thing σ0 i t op q σ) (hC : Con n Tk So f) (hf0 : f thing = none) (hi : i < op) {s : Sl} (hok : okS s) (ht : s.1 = t) (hA : A (q i) s) (huni : ∀ s', A (q i) s' → s'.1 = t → s' = s) (hF : ¬ F s) (hW : σ.1 80 (enc s) = -6) {k : Nat} (hk : k < n) (hfk : f k = some s) : op + 1 ≤ n ∧ Bfs A F n f thing σ0 i (t + 1) (op + 1) (qadd q op k) (am_up (am_up σ 80 (enc s) (q i)) 79 op k) := by
  have hfr := h.fresh hC hok hW
  have hT := h.free hC hi hok hA hF hW
  obtain ⟨hE, ⟨t1, t2, t3, t4, t5, t6⟩, hQ, hV, hD⟩ := h
  have hnq : ∀ j, j < op → q j ≠ k := by
    intro j hj e
    rcases Nat.eq_zero_or_pos j with z | z
    · subst z
      rw [t2] at e
      rw [← e, hf0] at hfk
      cases hfk
    · exact hfr j s z hj (by rw [e]; exact hfk) rfl
  have hd : ∀ a b, a < op + 1 → b < op + 1 → qadd q op k a = qadd q op k b → a = b := by
    intro a b ha hb e
    by_cases h1 : a = op
    · by_cases h2 : b = op
      · omega
      · rw [qadd_at h1, qadd_ne h2] at e
        exact absurd e.symm (hnq b (by omega))
    · by_cases h2 : b = op
      · rw [qadd_ne h1, qadd_at h2] at e
        exact absurd e (hnq a (by omega))
      · rw [qadd_ne h1, qadd_ne h2] at e
        exact t1 a b (by omega) (by omega) e
  have hl : ∀ j, j < op + 1 → qadd q op k j < n := by
    intro j hj
    by_cases h1 : j = op
    · rw [qadd_at h1]; exact hk
    · rw [qadd_ne h1]; exact t4 j (by omega)
  have r80 : (am_up (am_up σ 80 (enc s) (q i)) 79 op k).1 80 = rup (σ.1 80) (enc s) (q i) := by rw [am_up_other (by decide), am_up_same]
  have r79 : (am_up (am_up σ 80 (enc s) (q i)) 79 op k).1 79 = rup (σ.1 79) op k := by rw [am_up_same, am_up_other (by decide)]
  have hgrow : ∀ c, σ.1 80 c ≠ -6 → rup (σ.1 80) (enc s) (q i) c ≠ -6 := by
    intro c hc
    simp only [rup]
    split
    · omega
    · exact hc
  refine ⟨q_len hd hl, (hE.up (by decide)).up (by decide), ⟨hd, ?_, by omega, hl, fun j h0 hj => ?_, fun c hc => ?_⟩, fun j hj => ?_, fun c hc hcW => ?_, fun j x hj hjt ha hFx => ?_⟩
  · rw [qadd_ne (by omega)]; exact t2
  · rw [r80]
    by_cases h1 : j = op
    · rw [qadd_at h1]
      refine ⟨s, hfk, i, by omega, ?_⟩
      rw [qadd_ne (by omega)]
      simp only [rup, if_true]
    · rw [qadd_ne h1]
      obtain ⟨x, hx, i', hi', hw⟩ := t5 j h0 (by omega)
      refine ⟨x, hx, i', hi', ?_⟩
      rw [qadd_ne (by omega)]
      simp only [rup, if_neg (hfr j x h0 (by omega) hx)]
      exact hw
  · rw [r80]
    rcases hT.2.2.2.2.2 c hc with h1 | ⟨j, h1, h2, h3, h4⟩
    · exact Or.inl h1
    · refine Or.inr ⟨j, by omega, ?_, ?_, h4⟩
      · rw [qadd_ne (by omega)]; exact h2
      · rw [qadd_ne (by omega)]; exact h3
  · rw [r79]
    by_cases h1 : j = op
    · rw [qadd_at h1]; simp only [rup, if_pos h1]
    · rw [qadd_ne h1]; simp only [rup, if_neg h1]; exact hQ j (by omega)
  · rw [r80] at hcW
    by_cases e : c = enc s
    · refine ⟨op, by omega, ?_⟩
      rw [qadd_at rfl, e, dec_enc hok]
      exact hfk
    · simp only [rup, if_neg e] at hcW
      obtain ⟨j, hj, hx⟩ := hV c hc hcW
      refine ⟨j, by omega, ?_⟩
      rw [qadd_ne (by omega)]
      exact hx
  · rw [r80]
    have hjo : j ≠ op := by omega
    rw [qadd_ne hjo] at ha
    by_cases e : j < i ∨ (j = i ∧ x.1 < t)
    · exact hgrow _ (hD j x (by omega) e ha hFx)
    · have e1 : j = i := by omega
      subst e1
      have := huni x ha (by omega)
      subst this
      simp only [rup, if_true]
      omega
theorem Bfs.shut {G : Row} {F : Sl → Prop} {n : Nat} {f : Nat → Option Sl} {thing : Nat} {σ0 σ : am_S} {op : Nat} {q : Nat → Nat} (h : Bfs (bx_Ad G) F n f thing σ0 op 0 op q σ) : Shut (bx_Ad G) F f (fun k => ∃ j, j < op ∧ q j = k) := by
  rintro k s ⟨j, hj, rfl⟩ ha hF
  have h1 := h.2.2.2.2 j s hj (Or.inl hj) ha hF
  obtain ⟨j', hj', hs⟩ := h.2.2.2.1 (enc s) (enc_lt ha.1) h1
  rw [dec_enc ha.1] at hs
  exact ⟨q j', ⟨j', hj', rfl⟩, hs⟩
theorem c_slot7 {T : List am_C} {σ : am_S} {a t : Int} : Runs T mX7_slot [vI a, vI t] σ (QI (fun z σ' => z = 301 * a + t ∧ σ' = σ)) := by
  refine Runs.of (by decide) rfl (by simp) (Nat.le_of_ble_eq_true rfl) ?_
  show AW T mX7_slot 0 [some (vI a), some (vI t)] [] σ _
  refine AW_sipush dX7_slot_0 (by decide) ?_
  refine AW_iload_n dX7_slot_3 rfl ?_
  refine AW_imul dX7_slot_4 ?_
  refine AW_iload_n dX7_slot_5 rfl ?_
  refine AW_iadd dX7_slot_6 ?_
  refine AW_iret dX7_slot_7 rfl ?_
  refine ⟨_, rfl, ?_, rfl⟩
  rfl
set_option maxHeartbeats 4000000 in
theorem l_find7t {P : Nat → Prop} {n thing : Nat} {σ0 : am_S} {f : Nat → Option Sl} (hn : n ≤ 20) (hG : ∀ k t, k < n → t ≤ 300 → σ0.1 75 (301 * k + t) = -6 ∨ 0 ≤ σ0.1 75 (301 * k + t) ∧ σ0.1 75 (301 * k + t) < 4) (hZ : ∀ c, c < 1204 → 0 ≤ σ0.1 77 c ∧ σ0.1 77 c ≤ 1) (hC : Con n (σ0.1 76) (σ0.1 81) f) (hM : Mg (bx_Ad (σ0.1 75)) P (bx_Fd (σ0.1 77)) f) (hf0 : f thing = none) (hP0 : P thing) (hth : thing < n) {Q : Option am_V → am_S → Prop} (hyes : (∀ σ, Eqx [76, 79, 80, 81] σ0 σ → More (bx_Ad (σ0.1 75)) P (bx_Fd (σ0.1 77)) n f thing (σ.1 76) (σ.1 81) → Q (some (vI 1)) σ)) {i : Nat} (hk2 : ∀ (op : Nat) (q : Nat → Nat) (σ : am_S), Bfs (bx_Ad (σ0.1 75)) (bx_Fd (σ0.1 77)) n f thing σ0 i 301 op q σ → i < op → ∀ x y : Option am_V, AW am_tab mX7_find 169 [some (vR 70), some (vI thing), some (vI op), some (vI i), some (vI (q i)), some (vI (301 : Nat)), x, y] [] σ Q) : ∀ t : Nat, t ≤ 301 → ∀ (op : Nat) (q : Nat → Nat) (σ : am_S), Bfs (bx_Ad (σ0.1 75)) (bx_Fd (σ0.1 77)) n f thing σ0 i t op q σ → i < op → ∀ x y : Option am_V, AW am_tab mX7_find 50 [some (vR 70), some (vI thing), some (vI op), some (vI i), some (vI (q i)), some (vI t), x, y] [] σ Q :=
  up_loop (fun t ht ih op q σ hB hi x y => by
    have r75 : σ.1 75 = σ0.1 75 := hB.1.1 75 (by decide)
    have r76 : σ.1 76 = σ0.1 76 := hB.1.1 76 (by decide)
    have r77 : σ.1 77 = σ0.1 77 := hB.1.1 77 (by decide)
    have r81 : σ.1 81 = σ0.1 81 := hB.1.1 81 (by decide)
    have hop := q_len hB.2.1.1 hB.2.1.2.2.2.1
    have hqi := hB.2.1.2.2.2.1 i hi
    refine AW_iload dX7_find_50 rfl ?_
    refine AW_sipush dX7_find_52 (by decide) ?_
    refine AW_icmp_ge 169 dX7_find_55 (by decide) (by omega) (by omega) (fun h55 => ?_) (fun h55 => ?_)
    · have e : t = 301 := by omega
      subst e
      exact hk2 op q σ hB hi _ _
    · refine AW_aload_n dX7_find_58 rfl ?_
      refine AW_get dX7_find_59 fX7_23 rfl rfl ?_
      refine AW_sipush dX7_find_62 (by decide) ?_
      refine AW_iload dX7_find_65 rfl ?_
      refine AW_imul dX7_find_67 ?_
      refine AW_iload dX7_find_68 rfl ?_
      refine AW_iadd dX7_find_70 ?_
      refine AW_ialdN (j := 301 * q i + t) dX7_find_71 rfl (Nat.le_of_ble_eq_true rfl) (by omega) (by omega) ?_
      have hg := hG (q i) t hqi (by omega)
      rw [r75]
      refine AW_istore (lv' := [_, _, _, _, _, _, _, _]) dX7_find_72 (by decide) (Nat.le_of_ble_eq_true rfl) rfl ?_
      refine AW_iload dX7_find_74 rfl ?_
      refine AW_if_ge 83 dX7_find_76 (by decide) (by omega) (fun h76 => ?_) (fun h76 => ?_)
      · obtain ⟨a, hae⟩ : ∃ a : Nat, σ0.1 75 (301 * q i + t) = a := ⟨_, (Int.toNat_of_nonneg (by omega)).symm⟩
        rw [hae]
        have ha4 : a < 4 := by omega
        have hok : okS (t, a) := ⟨by dsimp only; omega, ha4⟩
        have hAd : bx_Ad (σ0.1 75) (q i) (t, a) := ⟨hok, hae⟩
        have henc : enc (t, a) = 301 * a + t := rfl
        have huni : ∀ s', bx_Ad (σ0.1 75) (q i) s' → s'.1 = t → s' = (t, a) := fun s' h1 h2 => by
          obtain ⟨t2, a2⟩ := s'
          have h2 : t2 = t := h2
          subst h2
          have h3 : σ0.1 75 (301 * q i + t2) = (a2 : Int) := h1.2
          have : a2 = a := by omega
          subst this
          rfl
        refine AW_iload dX7_find_83 rfl ?_
        refine AW_iload dX7_find_85 rfl ?_
        refine AW_cSI2 dX7_find_87 kX7_95 (am_fit_b rfl) (Nat.le_of_ble_eq_true rfl) (c_slot7) (fun z σ' hq => ?_)
        obtain ⟨hz, hs⟩ := hq
        replace hz := hz.symm
        subst hz
        replace hs := hs.symm
        subst hs
        refine AW_istore (lv' := [_, _, _, _, _, _, _, _]) dX7_find_90 (by decide) (Nat.le_of_ble_eq_true rfl) rfl ?_
        refine AW_iload dX7_find_92 rfl ?_
        refine AW_if_lt 163 dX7_find_94 (by decide) (by omega) (fun h94 => ?_) (fun h94 => ?_)
        · refine AW_iinc (lv' := [_, _, _, _, _, _, _, _]) dX7_find_163 rfl (by decide) rfl ?_
          refine AW_goto (tgt := 50) dX7_find_166 (by decide) ?_
          refine ih (by omega) op q σ (hB.skip (fun s hs ha hF => ?_)) hi _ _
          first
          | (exfalso
             have h3 := ha.2
             have h4 : σ0.1 75 (301 * q i + t) = (s.2 : Int) := by rw [← hs]; exact h3
             omega)
          | (have e := huni s ha hs
             subst e
             first
             | (rw [henc]; omega)
             | (exact absurd (show bx_Fd (σ0.1 77) (t, a) from by unfold bx_Fd; rw [henc]; omega) hF))
        · refine AW_aload_n dX7_find_97 rfl ?_
          refine AW_get dX7_find_98 fX7_38 rfl rfl ?_
          refine AW_iload dX7_find_101 rfl ?_
          refine AW_ialdN (j := 301 * a + t) dX7_find_103 rfl (Nat.le_of_ble_eq_true rfl) (by omega) (by omega) ?_
          refine AW_bipush dX7_find_104 (by decide) ?_
          have hwb : -6 ≤ σ.1 80 (301 * a + t) ∧ σ.1 80 (301 * a + t) < 20 := by
            rcases hB.2.1.2.2.2.2.2 (301 * a + t) (by omega) with h | ⟨j, hj, h, _⟩
            · omega
            · have := hB.2.1.2.2.2.1 j hj; omega
          refine AW_icmp_ne 163 dX7_find_106 (by decide) (by omega) (by omega) (fun h106 => ?_) (fun h106 => ?_)
          · refine AW_iinc (lv' := [_, _, _, _, _, _, _, _]) dX7_find_163 rfl (by decide) rfl ?_
            refine AW_goto (tgt := 50) dX7_find_166 (by decide) ?_
            refine ih (by omega) op q σ (hB.skip (fun s hs ha hF => ?_)) hi _ _
            first
            | (exfalso
               have h3 := ha.2
               have h4 : σ0.1 75 (301 * q i + t) = (s.2 : Int) := by rw [← hs]; exact h3
               omega)
            | (have e := huni s ha hs
               subst e
               first
               | (rw [henc]; omega)
               | (exact absurd (show bx_Fd (σ0.1 77) (t, a) from by unfold bx_Fd; rw [henc]; omega) hF))
          · refine AW_aload_n dX7_find_109 rfl ?_
            refine AW_get dX7_find_110 fX7_29 rfl rfl ?_
            refine AW_iload dX7_find_113 rfl ?_
            refine AW_zaldN (j := 301 * a + t) dX7_find_115 rfl (Nat.le_of_ble_eq_true rfl) (by omega) (by omega) ?_
            have hz := hZ (301 * a + t) (by omega)
            rw [r77]
            refine AW_if_ne 163 dX7_find_116 (by decide) (by omega) (fun h116 => ?_) (fun h116 => ?_)
            · refine AW_iinc (lv' := [_, _, _, _, _, _, _, _]) dX7_find_163 rfl (by decide) rfl ?_
              refine AW_goto (tgt := 50) dX7_find_166 (by decide) ?_
              refine ih (by omega) op q σ (hB.skip (fun s hs ha hF => ?_)) hi _ _
              first
              | (exfalso
                 have h3 := ha.2
                 have h4 : σ0.1 75 (301 * q i + t) = (s.2 : Int) := by rw [← hs]; exact h3
                 omega)
              | (have e := huni s ha hs
                 subst e
                 first
                 | (rw [henc]; omega)
                 | (exact absurd (show bx_Fd (σ0.1 77) (t, a) from by unfold bx_Fd; rw [henc]; omega) hF))
            · have hFn : ¬ bx_Fd (σ0.1 77) (t, a) := fun h => h (by rw [henc]; omega)
              have hWn : σ.1 80 (enc (t, a)) = -6 := by rw [henc]; omega
              refine AW_aload_n dX7_find_119 rfl ?_
              refine AW_get dX7_find_120 fX7_38 rfl rfl ?_
              refine AW_iload dX7_find_123 rfl ?_
              refine AW_iload dX7_find_125 rfl ?_
              refine AW_iastN (j := 301 * a + t) dX7_find_127 rfl (Nat.le_of_ble_eq_true rfl) (by omega) (by omega) ?_
              refine AW_aload_n dX7_find_128 rfl ?_
              refine AW_get dX7_find_129 fX7_26 rfl rfl ?_
              refine AW_iload dX7_find_132 rfl ?_
              refine AW_ialdN (j := 301 * a + t) dX7_find_134 rfl (Nat.le_of_ble_eq_true rfl) (by omega) (by omega) ?_
              rw [am_up_other (by decide), r76]
              have htb : -6 ≤ σ0.1 76 (301 * a + t) ∧ σ0.1 76 (301 * a + t) < 20 := by
                rcases hC.2.2.2 (301 * a + t) (by omega) with h | ⟨k, h1, h2, _⟩ <;> omega
              refine AW_if_ge 147 dX7_find_135 (by decide) (by omega) (fun h135 => ?_) (fun h135 => ?_)
              · refine AW_aload_n dX7_find_147 rfl ?_
                refine AW_get dX7_find_148 fX7_35 rfl rfl ?_
                refine AW_iload_n dX7_find_151 rfl ?_
                refine AW_aload_n dX7_find_152 rfl ?_
                refine AW_get dX7_find_153 fX7_26 rfl rfl ?_
                refine AW_iload dX7_find_156 rfl ?_
                refine AW_ialdN (j := 301 * a + t) dX7_find_158 rfl (Nat.le_of_ble_eq_true rfl) (by omega) (by omega) ?_
                rw [am_up_other (by decide), r76]
                have hk : ∃ k, k < n ∧ σ0.1 76 (301 * a + t) = (k : Nat) ∧ f k = some (t, a) := by
                  rcases hC.2.2.2 (301 * a + t) (by omega) with h | ⟨k, h1, h2, h3⟩
                  · omega
                  · exact ⟨k, h1, h2, by rw [h3, ← henc, dec_enc hok]⟩
                obtain ⟨k, hkn, hke, hkf⟩ := hk
                obtain ⟨hop2, hB2⟩ := hB.add hC hf0 hi hok rfl hAd huni hFn hWn hkn hkf
                rw [hke]
                refine AW_iastN (j := op) dX7_find_159 rfl (Nat.le_of_ble_eq_true rfl) (by omega) (by omega) ?_
                refine AW_iinc (lv' := [_, _, _, _, _, _, _, _]) dX7_find_160 rfl (by decide) rfl ?_
                refine AW_iinc (lv' := [_, _, _, _, _, _, _, _]) dX7_find_163 rfl (by decide) rfl ?_
                refine AW_goto (tgt := 50) dX7_find_166 (by decide) ?_
                have h9 := ih (by omega) (op + 1) _ _ hB2 (by omega)
                have hqe : qadd q op k i = q i := qadd_ne (by omega)
                rw [hqe] at h9
                exact h9 _ _
              · have hfree : ∀ k, f k ≠ some (dec (301 * a + t)) := fun k hk => by
                  have h1 := hC.2.2.1 k _ hk
                  rw [enc_dec] at h1
                  omega
                have hPq : ∀ j, j < op → P (q j) := fun j hj => by
                  rcases Nat.eq_zero_or_pos j with z | z
                  · subst z; rw [hB.2.1.2.1]; exact hP0
                  · obtain ⟨x, hx, _⟩ := hB.2.1.2.2.2.2.1 j z hj
                    exact (hM.1 _ _ hx).1
                have hE1 : Eqx [76, 79, 80, 81] σ0 (am_up σ 80 (301 * a + t) (q i)) := (hB.1.mono (by decide)).up (by decide)
                refine AW_aload_n dX7_find_138 rfl ?_
                refine AW_iload dX7_find_139 rfl ?_
                rw [show (301 * (a : Int) + (t : Int)) = ((301 * a + t : Nat) : Int) by omega]
                refine AW_iload_n dX7_find_141 rfl ?_
                refine AW_cVV2 dX7_find_142 kX7_98 (am_fit_b rfl) rfl rfl (Nat.le_of_ble_eq_true rfl) (c_turn7 (n := n) (q := q) (op := op) (P := P) (f := f) (A := bx_Ad (σ0.1 75)) (F := bx_Fd (σ0.1 77)) (c := 301 * a + t) hn (by rw [am_up_same]; exact hB.free hC hi hok hAd hFn hWn) hPq hf0 (by omega) (by omega) (by rw [am_up_same]; simp only [rup, if_true]; omega) (by rw [am_up_other (by decide), am_up_other (by decide), r76, r81]; exact hC) hM hfree) (fun σ' hq => ?_)
                obtain ⟨h1, h2⟩ := hq
                refine AW_iconst dX7_find_145 ?_
                refine AW_zret dX7_find_146 rfl (by first | exact Or.inl rfl | exact Or.inr rfl) ?_
                exact hyes _ (hE1.tr (h1.mono (by decide))) h2
      · refine AW_iconst dX7_find_79 ?_
        refine AW_goto (tgt := 90) dX7_find_80 (by decide) ?_
        refine AW_istore (lv' := [_, _, _, _, _, _, _, _]) dX7_find_90 (by decide) (Nat.le_of_ble_eq_true rfl) rfl ?_
        refine AW_iload dX7_find_92 rfl ?_
        refine AW_if_lt 163 dX7_find_94 (by decide) (by omega) (fun _ => ?_) (fun h => absurd (by omega) h)
        refine AW_iinc (lv' := [_, _, _, _, _, _, _, _]) dX7_find_163 rfl (by decide) rfl ?_
        refine AW_goto (tgt := 50) dX7_find_166 (by decide) ?_
        refine ih (by omega) op q σ (hB.skip (fun s hs ha hF => ?_)) hi _ _
        first
        | (exfalso
           have h3 := ha.2
           have h4 : σ0.1 75 (301 * q i + t) = (s.2 : Int) := by rw [← hs]; exact h3
           omega)
        | (have e := huni s ha hs
           subst e
           first
           | (rw [henc]; omega)
           | (exact absurd (show bx_Fd (σ0.1 77) (t, a) from by unfold bx_Fd; rw [henc]; omega) hF)))
