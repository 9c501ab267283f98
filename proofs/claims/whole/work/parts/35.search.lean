/-- a THING's slots, as the class lists them: by rising TICKS, all of them, or the first 20 -/
def LsOK (A : Nat → Sl → Prop) (k : Nat) (SL SC : Row) : Prop := ∃ c : Nat, SC k = c ∧ c ≤ 20 ∧ (∀ i, i < c → ∃ s, A k s ∧ SL (20 * k + i) = enc4 s) ∧ (∀ i j s s', i < j → j < c → okS s → okS s' → SL (20 * k + i) = enc4 s → SL (20 * k + j) = enc4 s' → s.1 < s'.1) ∧ ∀ s, A k s → (∃ i, i < c ∧ SL (20 * k + i) = enc4 s) ∨ (c = 20 ∧ ∀ i s', i < 20 → okS s' → SL (20 * k + i) = enc4 s' → s'.1 < s.1)
/-- the class's search under way -/
def BQ (A : Nat → Sl → Prop) (n first q : Nat) (f : Nat → Option Sl) (σ0 : am_S) (op : Nat) (qq : Nat → Nat) (p : Nat → Bool) (σ : am_S) : Prop :=
  Eqx [q, q + 5, q + 6] σ0 σ ∧ (σ.1 q 0 = σ0.1 q 0 ∧ σ.1 q 1 = σ0.1 q 1 ∧ σ.1 q 10 = σ0.1 q 10) ∧ σ.1 q 8 = (op : Nat) ∧ σ.1 q 9 = (bset p 20 : Nat) ∧ (∀ j, j < op → σ.1 (q + 5) j = qq j) ∧ TreeC A n first f op (σ.1 (q + 6)) qq ∧ ∀ k, p k = true ↔ ∃ j, j < op ∧ qq j = k
def Ext (p0 : Nat → Bool) (op0 : Nat) (qq0 : Nat → Nat) (p : Nat → Bool) (op : Nat) (qq : Nat → Nat) : Prop := (∀ x, p0 x = true → p x = true) ∧ op0 ≤ op ∧ ∀ j, j < op0 → qq j = qq0 j
theorem Ext.rf {p : Nat → Bool} {op : Nat} {qq : Nat → Nat} : Ext p op qq p op qq := ⟨fun _ h => h, Nat.le_refl _, fun _ _ => rfl⟩
theorem Ext.tr {p1 p2 p3 : Nat → Bool} {o1 o2 o3 : Nat} {q1 q2 q3 : Nat → Nat} (h : Ext p1 o1 q1 p2 o2 q2) (h2 : Ext p2 o2 q2 p3 o3 q3) : Ext p1 o1 q1 p3 o3 q3 := ⟨fun x hx => h2.1 x (h.1 x hx), Nat.le_trans h.2.1 h2.2.1, fun j hj => (h2.2.2 j (by have := h.2.1; omega)).trans (h.2.2 j hj)⟩
theorem Ext.enq {p0 p : Nat → Bool} {op0 op : Nat} {qq0 qq : Nat → Nat} (h : Ext p0 op0 qq0 p op qq) {k : Nat} : Ext p0 op0 qq0 (padd p k) (op + 1) (qadd qq op k) := by
  refine ⟨fun x hx => ?_, by have := h.2.1; omega, fun j hj => ?_⟩
  · by_cases e : x = k
    · rw [e]; exact padd_at
    · rw [padd_ne e]; exact h.1 x hx
  · rw [qadd_ne (by have := h.2.1; omega)]; exact h.2.2 j hj
theorem BQ.op_le {A : Nat → Sl → Prop} {n first q : Nat} {f : Nat → Option Sl} {σ0 σ : am_S} {op : Nat} {qq : Nat → Nat} {p : Nat → Bool} (h : BQ A n first q f σ0 op qq p σ) : op ≤ n := q_len h.2.2.2.2.2.1.1 (fun j hj => (h.2.2.2.2.2.1.2.1 j hj).2)
/-- a thing more in the row -/
def enqS (σ : am_S) (q k op : Nat) (p : Nat → Bool) (wanting : Int) : am_S := am_up (am_up (am_up (am_up σ q 9 (bset (padd p k) 20 : Nat)) (q + 6) k wanting) (q + 5) op k) q 8 ((op : Int) + 1)
theorem BQ.enq {A : Nat → Sl → Prop} {n first q : Nat} {f : Nat → Option Sl} {σ0 σ : am_S} {op : Nat} {qq : Nat → Nat} {p : Nat → Bool} (h : BQ A n first q f σ0 op qq p σ) {k : Nat} {wanting : Int} (hp : p k = false) (hk : first ≤ k ∧ k < n) (hw : (f k = none ∧ wanting = -1) ∨ ∃ s, f k = some s ∧ ∃ i, i < op ∧ wanting = qq i ∧ A (qq i) s) : op + 1 ≤ n ∧ BQ A n first q f σ0 (op + 1) (qadd qq op k) (padd p k) (enqS σ q k op p wanting) := by
  obtain ⟨h1, h2, h3, h4, h5, ⟨t1, t2, t3⟩, h7⟩ := h
  have hne : ∀ j, j < op → qq j ≠ k := fun j hj e => by
    have := (h7 k).mpr ⟨j, hj, e⟩
    rw [hp] at this
    cases this
  have hd : ∀ a b, a < op + 1 → b < op + 1 → qadd qq op k a = qadd qq op k b → a = b := by
    intro a b ha hb e
    by_cases c1 : a = op
    · by_cases c2 : b = op
      · omega
      · rw [qadd_at c1, qadd_ne c2] at e
        exact absurd e.symm (hne b (by omega))
    · by_cases c2 : b = op
      · rw [qadd_ne c1, qadd_at c2] at e
        exact absurd e (hne a (by omega))
      · rw [qadd_ne c1, qadd_ne c2] at e
        exact t1 a b (by omega) (by omega) e
  have hl : ∀ j, j < op + 1 → first ≤ qadd qq op k j ∧ qadd qq op k j < n := by
    intro j hj
    by_cases c1 : j = op
    · rw [qadd_at c1]; exact hk
    · rw [qadd_ne c1]; exact t2 j (by omega)
  have rq : (enqS σ q k op p wanting).1 q = rup (rup (σ.1 q) 9 (bset (padd p k) 20 : Nat)) 8 ((op : Int) + 1) := by
    unfold enqS
    rw [am_up_same, am_up_other (by omega), am_up_other (by omega), am_up_same]
  have r5 : (enqS σ q k op p wanting).1 (q + 5) = rup (σ.1 (q + 5)) op k := by
    unfold enqS
    rw [am_up_other (by omega), am_up_same, am_up_other (by omega), am_up_other (by omega)]
  have r6 : (enqS σ q k op p wanting).1 (q + 6) = rup (σ.1 (q + 6)) k wanting := by
    unfold enqS
    rw [am_up_other (by omega), am_up_other (by omega), am_up_same, am_up_other (by omega)]
  refine ⟨q_len hd (fun j hj => (hl j hj).2), ?_, ?_, ?_, ?_, fun j hj => ?_, ⟨hd, hl, fun j hj => ?_⟩, fun x => ?_⟩
  · unfold enqS
    exact (((h1.up (by simp)).up (by simp)).up (by simp)).up (by simp)
  · rw [rq]
    exact ⟨h2.1, h2.2.1, h2.2.2⟩
  · rw [rq]; rfl
  · rw [rq]; rfl
  · rw [r5]
    by_cases c1 : j = op
    · rw [qadd_at c1]; simp only [rup, if_pos c1]
    · rw [qadd_ne c1]; simp only [rup, if_neg c1]; exact h5 j (by omega)
  · rw [r6]
    by_cases c1 : j = op
    · rw [qadd_at c1]
      rcases hw with ⟨w1, w2⟩ | ⟨s, w1, i, w2, w3, w4⟩
      · exact Or.inl ⟨w1, by simp only [rup, if_true]; exact w2⟩
      · refine Or.inr ⟨s, w1, i, by omega, ?_, ?_⟩
        · rw [qadd_ne (by omega)]; simp only [rup, if_true]; exact w3
        · rw [qadd_ne (by omega)]; exact w4
    · rw [qadd_ne c1]
      have hjk := hne j (by omega)
      simp only [rup, if_neg hjk]
      rcases t3 j (by omega) with g | ⟨s, w1, i, w2, w3, w4⟩
      · exact Or.inl g
      · refine Or.inr ⟨s, w1, i, w2, ?_, ?_⟩
        · rw [qadd_ne (by omega)]; exact w3
        · rw [qadd_ne (by omega)]; exact w4
  · by_cases c1 : x = k
    · subst c1
      exact ⟨fun _ => ⟨op, by omega, qadd_at rfl⟩, fun _ => padd_at⟩
    · rw [padd_ne c1, h7]
      constructor
      · rintro ⟨j, hj, e⟩; exact ⟨j, by omega, by rw [qadd_ne (by omega)]; exact e⟩
      · rintro ⟨j, hj, e⟩
        by_cases c2 : j = op
        · rw [qadd_at c2] at e; exact absurd e.symm c1
        · rw [qadd_ne c2] at e; exact ⟨j, by omega, e⟩
set_option maxHeartbeats 4000000 in
theorem l_freeSlot {A : Nat → Sl → Prop} {n first q : Nat} {σ0 : am_S} {f : Nat → Option Sl} (hq : PT q) (hn : n ≤ 20) (hf20 : first ≤ 20) (hAok : ∀ k s, A k s → okS s) (hC : ConC n (σ0.1 (q + 4)) (σ0.1 (q + 3)) f) (hls : ∀ k, k < n → LsOK A k (σ0.1 (q + 1)) (σ0.1 (q + 2))) {k c : Nat} {p0 : Nat → Bool} {op0 : Nat} {qq0 : Nat → Nat} (hk : k < n) (hc1 : σ0.1 (q + 2) k = (c : Nat)) (hc2 : c ≤ 20) (hc3 : ∀ i, i < c → ∃ s, A k s ∧ σ0.1 (q + 1) (20 * k + i) = enc4 s) {Q : Option am_V → am_S → Prop} (hfree : ∀ (op : Nat) (qq : Nat → Nat) (p : Nat → Bool) (σ : am_S), BQ A n first q f σ0 op qq p σ → Ext p0 op0 qq0 p op qq → ∀ x : Nat, x < 1204 → (∀ y, f y ≠ some (dec4 x)) → A k (dec4 x) → Q (some (vI (x : Nat))) σ) (hnone : ∀ (op : Nat) (qq : Nat → Nat) (p : Nat → Bool) (σ : am_S), BQ A n first q f σ0 op qq p σ → Ext p0 op0 qq0 p op qq → (∀ i1, i1 < c → ∀ s, okS s → σ0.1 (q + 1) (20 * k + i1) = enc4 s → ∃ h : Nat, f h = some s ∧ (h < first ∨ p h = true)) → Q (some (vI (-1))) σ) : ∀ i : Nat, i ≤ c → ∀ (op : Nat) (qq : Nat → Nat) (p : Nat → Bool) (σ : am_S), BQ A n first q f σ0 op qq p σ → (∃ jj, jj < op ∧ qq jj = k) → Ext p0 op0 qq0 p op qq → (∀ i1, i1 < i → ∀ s, okS s → σ0.1 (q + 1) (20 * k + i1) = enc4 s → ∃ h : Nat, f h = some s ∧ (h < first ∨ p h = true)) → ∀ x y : Option am_V, AW am_tab mX2_freeSlot 2 [some (vR q), some (vI (k : Nat)), some (vI (first : Nat)), some (vI (i : Nat)), x, y] [] σ Q :=
  up_loop (fun i hi0 ih op qq p σ hB hjj hpm hvis x y => by
    have hop := hB.op_le
    have r1 : σ.1 (q + 1) = σ0.1 (q + 1) := hB.1.1 (q + 1) (by simp)
    have r2 : σ.1 (q + 2) = σ0.1 (q + 2) := hB.1.1 (q + 2) (by simp)
    have r4 : σ.1 (q + 4) = σ0.1 (q + 4) := hB.1.1 (q + 4) (by simp)
    refine AW_iload_n dX2_freeSlot_2 rfl ?_
    refine AW_aload_n dX2_freeSlot_3 rfl ?_
    refine AW_get dX2_freeSlot_4 fX2_22 hq.1 rfl ?_
    refine AW_iload_n dX2_freeSlot_7 rfl ?_
    refine AW_ialdN (j := k) dX2_freeSlot_8 hq.2.2.1 (Nat.le_of_ble_eq_true rfl) (by omega) (by omega) ?_
    rw [r2, hc1]
    refine AW_icmp_ge 61 dX2_freeSlot_9 (by decide) (by omega) (by omega) (fun h9 => ?_) (fun h9 => ?_)
    · refine AW_iconst dX2_freeSlot_61 ?_
      refine AW_iret dX2_freeSlot_62 rfl ?_
      have e : i = c := by omega
      subst e
      exact hnone op qq p σ hB hpm hvis
    · refine AW_aload_n dX2_freeSlot_12 rfl ?_
      refine AW_get dX2_freeSlot_13 fX2_18 hq.1 rfl ?_
      refine AW_iload_n dX2_freeSlot_16 rfl ?_
      refine AW_bipush dX2_freeSlot_17 (by decide) ?_
      refine AW_imul dX2_freeSlot_19 ?_
      refine AW_iload_n dX2_freeSlot_20 rfl ?_
      refine AW_iadd dX2_freeSlot_21 ?_
      refine AW_ialdN (j := 20 * k + i) dX2_freeSlot_22 hq.2.1 (Nat.le_of_ble_eq_true rfl) (by omega) (by omega) ?_
      obtain ⟨s, hsA, hse⟩ := hc3 i (by omega)
      rw [r1, hse]
      have hsok := hAok k s hsA
      have hsl := enc4_lt hsok
      refine AW_istore (lv' := [_, _, _, _, _, _]) dX2_freeSlot_23 (by decide) (Nat.le_of_ble_eq_true rfl) rfl ?_
      refine AW_aload_n dX2_freeSlot_25 rfl ?_
      refine AW_get dX2_freeSlot_26 fX2_28 hq.1 rfl ?_
      refine AW_iload dX2_freeSlot_29 rfl ?_
      refine AW_ialdN (j := enc4 s) dX2_freeSlot_31 hq.2.2.2.2.1 (Nat.le_of_ble_eq_true rfl) (by omega) (by omega) ?_
      rw [r4]
      have hho := hC.2.2.2 (enc4 s) hsl
      have hhb : -1 ≤ σ0.1 (q + 4) (enc4 s) ∧ σ0.1 (q + 4) (enc4 s) < 20 := by
        rcases hho with h | ⟨h, h1, h2, _⟩ <;> omega
      refine AW_istore (lv' := [_, _, _, _, _, _]) dX2_freeSlot_32 (by decide) (Nat.le_of_ble_eq_true rfl) rfl ?_
      refine AW_iload dX2_freeSlot_34 rfl ?_
      refine AW_if_ge 42 dX2_freeSlot_36 (by decide) (by omega) (fun h36 => ?_) (fun h36 => ?_)
      · obtain ⟨h, hhn, hhe, hhf⟩ : ∃ h : Nat, h < n ∧ σ0.1 (q + 4) (enc4 s) = h ∧ f h = some s := by
          rcases hho with h | ⟨h, h1, h2, h3⟩
          · omega
          · exact ⟨h, h1, h2, by rw [h3, dec4_enc hsok]⟩
        rw [hhe]
        have hvis2 : ∀ (p2 : Nat → Bool), (∀ x, p x = true → p2 x = true) → (h < first ∨ p2 h = true) → (∀ i1, i1 < (i + 1) → ∀ s, okS s → σ0.1 (q + 1) (20 * k + i1) = enc4 s → ∃ h : Nat, f h = some s ∧ (h < first ∨ p2 h = true)) := fun p2 hm hh i1 hi1 s1 ho1 he1 => by
          by_cases e : i1 = i
          · subst e
            have : s1 = s := enc4_inj ho1 hsok (by rw [hse] at he1; omega)
            subst this
            exact ⟨h, hhf, hh⟩
          · obtain ⟨h2, g1, g2⟩ := hvis i1 (by omega) s1 ho1 he1
            exact ⟨h2, g1, g2.imp id (hm h2)⟩
        refine AW_iload dX2_freeSlot_42 rfl ?_
        refine AW_iload_n dX2_freeSlot_44 rfl ?_
        refine AW_icmp_lt 55 dX2_freeSlot_45 (by decide) (by omega) (by omega) (fun h45 => ?_) (fun h45 => ?_)
        · refine AW_iinc (lv' := [_, _, _, _, _, _]) dX2_freeSlot_55 rfl (by decide) rfl ?_
          refine AW_goto (tgt := 2) dX2_freeSlot_58 (by decide) ?_
          exact ih (by omega) op qq p σ hB hjj hpm (hvis2 p (fun _ h => h) (Or.inl (by omega))) _ _
        · obtain ⟨jj, hjo, hjk⟩ := hjj
          have hroom : p h = false → op < 20 := fun hp => by
            have := (hB.enq (wanting := (k : Int)) hp (by omega) (Or.inr ⟨s, hhf, jj, hjo, by rw [hjk], by rw [hjk]; exact hsA⟩)).1
            omega
          refine AW_aload_n dX2_freeSlot_48 rfl ?_
          refine AW_iload dX2_freeSlot_49 rfl ?_
          refine AW_iload_n dX2_freeSlot_51 rfl ?_
          refine AW_cVV2 dX2_freeSlot_52 kX2_107 (am_fit_b rfl) hq.1 rfl (Nat.le_of_ble_eq_true rfl) (c_enqueue hq (by omega) hB.2.2.2.1 hB.2.2.1 (by omega) hroom) (fun σ' hq2 => ?_)
          by_cases hp : p h = true
          · rw [if_pos hp] at hq2
            replace hq2 := hq2.symm
            subst hq2
            refine AW_iinc (lv' := [_, _, _, _, _, _]) dX2_freeSlot_55 rfl (by decide) rfl ?_
            refine AW_goto (tgt := 2) dX2_freeSlot_58 (by decide) ?_
            exact ih (by omega) op qq p σ hB ⟨jj, hjo, hjk⟩ hpm (hvis2 p (fun _ h => h) (Or.inr hp)) _ _
          · rw [if_neg hp] at hq2
            have hpf : p h = false := by cases e : p h with
              | true => exact absurd e hp
              | false => rfl
            have hB2 := (hB.enq (wanting := (k : Int)) hpf (by omega) (Or.inr ⟨s, hhf, jj, hjo, by rw [hjk], by rw [hjk]; exact hsA⟩)).2
            have hs2 : σ' = enqS σ q h op p (k : Int) := hq2
            rw [← hs2] at hB2
            refine AW_iinc (lv' := [_, _, _, _, _, _]) dX2_freeSlot_55 rfl (by decide) rfl ?_
            refine AW_goto (tgt := 2) dX2_freeSlot_58 (by decide) ?_
            exact ih (by omega) (op + 1) (qadd qq op h) (padd p h) σ' hB2 ⟨jj, by omega, by rw [qadd_ne (by omega)]; exact hjk⟩ hpm.enq (hvis2 (padd p h) (fun x hx => by
              by_cases e : x = h
              · rw [e]; exact padd_at
              · rw [padd_ne e]; exact hx) (Or.inr padd_at)) _ _
      · refine AW_iload dX2_freeSlot_39 rfl ?_
        refine AW_iret dX2_freeSlot_41 rfl ?_
        refine hfree op qq p σ hB hpm (enc4 s) hsl ?_ (by rw [dec4_enc hsok]; exact hsA)
        intro x hx
        have := hC.2.2.1 x _ hx
        rw [enc4_dec] at this
        omega)
theorem c_freeSlot {A : Nat → Sl → Prop} {n first q : Nat} {σ0 : am_S} {f : Nat → Option Sl} (hq : PT q) (hn : n ≤ 20) (hf20 : first ≤ 20) (hAok : ∀ k s, A k s → okS s) (hC : ConC n (σ0.1 (q + 4)) (σ0.1 (q + 3)) f) (hls : ∀ k, k < n → LsOK A k (σ0.1 (q + 1)) (σ0.1 (q + 2))) {op k : Nat} {qq : Nat → Nat} {p : Nat → Bool} {σ : am_S} (hk : k < n) (hB : BQ A n first q f σ0 op qq p σ) (hjj : ∃ jj, jj < op ∧ qq jj = k) : Runs am_tab mX2_freeSlot [vR q, vI k, vI first] σ (QI (fun z σ' => ∃ (op2 : Nat) (qq2 : Nat → Nat) (p2 : Nat → Bool), BQ A n first q f σ0 op2 qq2 p2 σ' ∧ Ext p op qq p2 op2 qq2 ∧ ((∃ x : Nat, z = x ∧ x < 1204 ∧ (∀ y, f y ≠ some (dec4 x)) ∧ A k (dec4 x)) ∨ (z = -1 ∧ (∀ (i1 : Nat) s, (i1 : Int) < σ0.1 (q + 2) k → okS s → σ0.1 (q + 1) (20 * k + i1) = enc4 s → ∃ h : Nat, f h = some s ∧ (h < first ∨ p2 h = true)))))) := by
  refine Runs.of (by decide) rfl (by simp) (Nat.le_of_ble_eq_true rfl) ?_
  show AW am_tab mX2_freeSlot 0 [some (vR q), some (vI k), some (vI first), none, none, none] [] σ _
  refine AW_iconst dX2_freeSlot_0 ?_
  refine AW_istore_n (i := 3) (lv' := [_, _, _, _, _, _]) dX2_freeSlot_1 rfl (by decide) (Nat.le_of_ble_eq_true rfl) rfl ?_
  obtain ⟨c, hc1, hc2, hc3, _⟩ := hls k hk
  refine l_freeSlot hq hn hf20 hAok hC hls (p0 := p) (op0 := op) (qq0 := qq) hk hc1 hc2 hc3 (fun op2 qq2 p2 σ2 hB2 hX x hx1 hx2 hx3 => ⟨_, rfl, op2, qq2, p2, hB2, hX, Or.inl ⟨x, rfl, hx1, hx2, hx3⟩⟩) (fun op2 qq2 p2 σ2 hB2 hX hv => ⟨_, rfl, op2, qq2, p2, hB2, hX, Or.inr ⟨rfl, fun i1 s hi1 ho he => hv i1 (by rw [hc1] at hi1; omega) s ho he⟩⟩) 0 (by omega) op qq p σ hB hjj Ext.rf (fun i1 hi1 => absurd hi1 (Nat.not_lt_zero _)) _ _
theorem l_takeOne1 {A : Nat → Sl → Prop} {n first q : Nat} {σ0 : am_S} {f : Nat → Option Sl} (hq : PT q) (hn : n ≤ 20) (hf20 : first ≤ 20) (hAok : ∀ k s, A k s → okS s) (hC : ConC n (σ0.1 (q + 4)) (σ0.1 (q + 3)) f) (hls : ∀ k, k < n → LsOK A k (σ0.1 (q + 1)) (σ0.1 (q + 2))) (hcount : σ0.1 q 0 = (n : Nat)) {Q : Option am_V → am_S → Prop} (hk2 : ∀ (op : Nat) (qq : Nat → Nat) (p : Nat → Bool) (σ : am_S), BQ A n first q f σ0 op qq p σ → (∀ j, first ≤ j → j < n → f j = none → p j = true) → (∀ j, j < op → f (qq j) = none ∧ qq j < n) → AW am_tab mX2_takeOneMore 41 [some (vR q), some (vI (first : Nat)), some (vI (n : Nat)), none, none] [] σ Q) : ∀ i : Nat, i ≤ n → first ≤ i → ∀ (op : Nat) (qq : Nat → Nat) (p : Nat → Bool) (σ : am_S), BQ A n first q f σ0 op qq p σ → (∀ j, first ≤ j → j < i → f j = none → p j = true) → (∀ j, j < op → f (qq j) = none ∧ qq j < i) → AW am_tab mX2_takeOneMore 12 [some (vR q), some (vI (first : Nat)), some (vI (i : Nat)), none, none] [] σ Q :=
  up_loop (fun i hi0 ih hfi0 op qq p σ hB hun hsrc => by
    have hop := hB.op_le
    have r3 : σ.1 (q + 3) = σ0.1 (q + 3) := hB.1.1 (q + 3) (by simp)
    refine AW_iload_n dX2_takeOneMore_12 rfl ?_
    refine AW_aload_n dX2_takeOneMore_13 rfl ?_
    refine AW_get dX2_takeOneMore_14 fX2_9 hq.1 rfl ?_
    rw [hB.2.1.1, hcount]
    refine AW_icmp_ge 41 dX2_takeOneMore_17 (by decide) (by omega) (by omega) (fun h17 => ?_) (fun h17 => ?_)
    · have e : i = n := by omega
      subst e
      exact hk2 op qq p σ hB hun hsrc
    · refine AW_aload_n dX2_takeOneMore_20 rfl ?_
      refine AW_get dX2_takeOneMore_21 fX2_25 hq.1 rfl ?_
      refine AW_iload_n dX2_takeOneMore_24 rfl ?_
      refine AW_ialdN (j := i) dX2_takeOneMore_25 hq.2.2.2.1 (Nat.le_of_ble_eq_true rfl) (by omega) (by omega) ?_
      rw [r3]
      have hsb : -1 ≤ σ0.1 (q + 3) i ∧ σ0.1 (q + 3) i < 1204 := by
        cases he : f i with
        | none => have := hC.1 i (by omega) he; omega
        | some s => obtain ⟨_, b, d⟩ := hC.2.1 _ _ he; have := enc4_lt b; omega
      refine AW_if_ge 35 dX2_takeOneMore_26 (by decide) (by omega) (fun h26 => ?_) (fun h26 => ?_)
      · refine AW_iinc (lv' := [_, _, _, _, _]) dX2_takeOneMore_35 rfl (by decide) rfl ?_
        refine AW_goto (tgt := 12) dX2_takeOneMore_38 (by decide) ?_
        refine ih (by omega) (by omega) op qq p σ hB (fun j h1 h2 h3 => ?_) (fun j hj => ⟨(hsrc j hj).1, by have := (hsrc j hj).2; omega⟩)
        by_cases e : j = i
        · subst e; have := hC.1 j (by omega) h3; omega
        · exact hun j h1 (by omega) h3
      · have hfi : f i = none := by
          cases he : f i with
          | none => rfl
          | some s => obtain ⟨_, b, d⟩ := hC.2.1 _ _ he; omega
        have hpi : p i = false := by
          cases e : p i with
          | false => rfl
          | true =>
            obtain ⟨j, hj, hji⟩ := (hB.2.2.2.2.2.2 i).mp e
            have := (hsrc j hj).2
            omega
        have hen := hB.enq (wanting := -1) hpi (by omega) (Or.inl ⟨hfi, rfl⟩)
        refine AW_aload_n dX2_takeOneMore_29 rfl ?_
        refine AW_iload_n dX2_takeOneMore_30 rfl ?_
        refine AW_iconst dX2_takeOneMore_31 ?_
        refine AW_cVV2 dX2_takeOneMore_32 kX2_107 (am_fit_b rfl) hq.1 rfl (Nat.le_of_ble_eq_true rfl) (c_enqueue hq (by omega) hB.2.2.2.1 hB.2.2.1 (by omega) (fun _ => by omega)) (fun σ' hq2 => ?_)
        rw [if_neg (by rw [hpi]; decide)] at hq2
        have hs2 : σ' = enqS σ q i op p (-1) := hq2
        have hB2 := hen.2
        rw [← hs2] at hB2
        refine AW_iinc (lv' := [_, _, _, _, _]) dX2_takeOneMore_35 rfl (by decide) rfl ?_
        refine AW_goto (tgt := 12) dX2_takeOneMore_38 (by decide) ?_
        refine ih (by omega) (by omega) (op + 1) (qadd qq op i) (padd p i) σ' hB2 (fun j h1 h2 h3 => ?_) (fun j hj => ?_)
        · by_cases e : j = i
          · rw [e]; exact padd_at
          · rw [padd_ne e]; exact hun j h1 (by omega) h3
        · by_cases e : j = op
          · rw [qadd_at e]; exact ⟨hfi, by omega⟩
          · rw [qadd_ne e]; have := hsrc j (by omega); exact ⟨this.1, by omega⟩)
set_option maxHeartbeats 4000000 in
theorem l_takeOne2 {A : Nat → Sl → Prop} {n first q : Nat} {σ0 : am_S} {f : Nat → Option Sl} (hq : PT q) (hn : n ≤ 20) (hf20 : first ≤ 20) (hAok : ∀ k s, A k s → okS s) (hC : ConC n (σ0.1 (q + 4)) (σ0.1 (q + 3)) f) (hls : ∀ k, k < n → LsOK A k (σ0.1 (q + 1)) (σ0.1 (q + 2))) (hM : Mg A (fun j => j < n) f0 f) {Q : Option am_V → am_S → Prop} (hyes : (∀ (op : Nat) (qq : Nat → Nat) (p : Nat → Bool) (σ : am_S), BQ A n first q f σ0 op qq p σ → ∀ σ3, Eqx [q + 3, q + 4] σ σ3 → MoreC A n first f (σ3.1 (q + 4)) (σ3.1 (q + 3)) → Q (some (vI 1)) σ3)) (hno : (∀ (op : Nat) (qq : Nat → Nat) (p : Nat → Bool) (σ : am_S), BQ A n first q f σ0 op qq p σ → (∀ j, first ≤ j → j < n → f j = none → p j = true) → (∀ j, j < op → (∀ (i1 : Nat) s, (i1 : Int) < σ0.1 (q + 2) (qq j) → okS s → σ0.1 (q + 1) (20 * (qq j) + i1) = enc4 s → ∃ h : Nat, f h = some s ∧ (h < first ∨ p h = true))) → Q (some (vI 0)) σ)) : ∀ i : Nat, i ≤ n → ∀ (op : Nat) (qq : Nat → Nat) (p : Nat → Bool) (σ : am_S), i ≤ op → BQ A n first q f σ0 op qq p σ → (∀ j, first ≤ j → j < n → f j = none → p j = true) → (∀ j, j < i → (∀ (i1 : Nat) s, (i1 : Int) < σ0.1 (q + 2) (qq j) → okS s → σ0.1 (q + 1) (20 * (qq j) + i1) = enc4 s → ∃ h : Nat, f h = some s ∧ (h < first ∨ p h = true))) → ∀ x y : Option am_V, AW am_tab mX2_takeOneMore 43 [some (vR q), some (vI (first : Nat)), some (vI (i : Nat)), x, y] [] σ Q :=
  up_loop (fun i hi0 ih op qq p σ hio hB hun hdone x y => by
    have hop := hB.op_le
    have hqi := fun (h : i < op) => hB.2.2.2.2.2.1.2.1 i h
    refine AW_iload_n dX2_takeOneMore_43 rfl ?_
    refine AW_bipush dX2_takeOneMore_44 (by decide) ?_
    refine AW_icmp_ge 92 dX2_takeOneMore_46 (by decide) (by omega) (by omega) (fun h46 => ?_) (fun h46 => ?_)
    · refine AW_iconst dX2_takeOneMore_92 ?_
      refine AW_zret dX2_takeOneMore_93 rfl (by first | exact Or.inl rfl | exact Or.inr rfl) ?_
      have e : i = op := by omega
      subst e
      exact hno i qq p σ hB hun hdone
    · refine AW_iload_n dX2_takeOneMore_49 rfl ?_
      refine AW_aload_n dX2_takeOneMore_50 rfl ?_
      refine AW_get dX2_takeOneMore_51 fX2_37 hq.1 rfl ?_
      rw [hB.2.2.1]
      refine AW_icmp_ge 92 dX2_takeOneMore_54 (by decide) (by omega) (by omega) (fun h54 => ?_) (fun h54 => ?_)
      · refine AW_iconst dX2_takeOneMore_92 ?_
        refine AW_zret dX2_takeOneMore_93 rfl (by first | exact Or.inl rfl | exact Or.inr rfl) ?_
        have e : i = op := by omega
        subst e
        exact hno i qq p σ hB hun hdone
      · refine AW_aload_n dX2_takeOneMore_57 rfl ?_
        refine AW_get dX2_takeOneMore_58 fX2_31 hq.1 rfl ?_
        refine AW_iload_n dX2_takeOneMore_61 rfl ?_
        refine AW_ialdN (j := i) dX2_takeOneMore_62 hq.2.2.2.2.2.1 (Nat.le_of_ble_eq_true rfl) (by omega) (by omega) ?_
        rw [hB.2.2.2.2.1 i (by omega)]
        refine AW_istore_n (i := 3) (lv' := [_, _, _, _, _]) dX2_takeOneMore_63 rfl (by decide) (Nat.le_of_ble_eq_true rfl) rfl ?_
        refine AW_aload_n dX2_takeOneMore_64 rfl ?_
        refine AW_iload_n dX2_takeOneMore_65 rfl ?_
        refine AW_iload_n dX2_takeOneMore_66 rfl ?_
        refine AW_cVI2 dX2_takeOneMore_67 kX2_110 (am_fit_b rfl) hq.1 rfl (Nat.le_of_ble_eq_true rfl) (c_freeSlot hq hn hf20 hAok hC hls (hqi (by omega)).2 hB ⟨i, by omega, rfl⟩) (fun z σ' hq2 => ?_)
        obtain ⟨op2, qq2, p2, hB2, hX, hz⟩ := hq2
        have hzb : -1 ≤ z ∧ z < 1204 := by
          rcases hz with ⟨x, rfl, h, _⟩ | ⟨rfl, _⟩ <;> omega
        refine AW_istore (lv' := [_, _, _, _, _]) dX2_takeOneMore_70 (by decide) (Nat.le_of_ble_eq_true rfl) rfl ?_
        refine AW_iload dX2_takeOneMore_72 rfl ?_
        refine AW_if_lt 86 dX2_takeOneMore_74 (by decide) (by omega) (fun h74 => ?_) (fun h74 => ?_)
        · refine AW_iinc (lv' := [_, _, _, _, _]) dX2_takeOneMore_86 rfl (by decide) rfl ?_
          refine AW_goto (tgt := 43) dX2_takeOneMore_89 (by decide) ?_
          have hv : (∀ (i1 : Nat) s, (i1 : Int) < σ0.1 (q + 2) (qq i) → okS s → σ0.1 (q + 1) (20 * (qq i) + i1) = enc4 s → ∃ h : Nat, f h = some s ∧ (h < first ∨ p2 h = true)) := by
            rcases hz with ⟨x, rfl, _⟩ | ⟨_, h⟩
            · omega
            · exact h
          refine ih (by omega) op2 qq2 p2 σ' (by have := hX.2.1; omega) hB2 (fun j h1 h2 h3 => hX.1 j (hun j h1 h2 h3)) (fun j hj i1 s hi1 ho he => ?_) _ _
          by_cases e : j = i
          · subst e
            rw [hX.2.2 j (by omega)] at hi1 he
            exact hv i1 s hi1 ho he
          · rw [hX.2.2 j (by omega)] at hi1 he
            obtain ⟨h, g1, g2⟩ := hdone j (by omega) i1 s hi1 ho he
            exact ⟨h, g1, g2.imp id (hX.1 h)⟩
        · obtain ⟨x, hzx, hx1, hx2, hx3⟩ : ∃ x : Nat, z = x ∧ x < 1204 ∧ (∀ y, f y ≠ some (dec4 x)) ∧ A (qq i) (dec4 x) := by
            rcases hz with h | ⟨h, _⟩
            · exact h
            · omega
          subst hzx
          have hqe : qq i = qq2 i := (hX.2.2 i (by omega)).symm
          rw [hqe]
          rw [hqe] at hx3
          have hC2 : ConC n (σ'.1 (q + 4)) (σ'.1 (q + 3)) f := by
            rw [hB2.1.1 (q + 4) (by simp), hB2.1.1 (q + 3) (by simp)]
            exact hC
          refine AW_aload_n dX2_takeOneMore_77 rfl ?_
          refine AW_iload_n dX2_takeOneMore_78 rfl ?_
          refine AW_iload dX2_takeOneMore_79 rfl ?_
          refine AW_cVV2 dX2_takeOneMore_81 kX2_113 (am_fit_b rfl) hq.1 rfl (Nat.le_of_ble_eq_true rfl) (c_moveUp (σ0 := σ') (j := i) hq hn hB2.2.2.2.2.2.1 (by have := hX.2.1; omega) hx1 hC2 hM hx2 hx3) (fun σ3 hq3 => ?_)
          obtain ⟨hE3, hMo⟩ := hq3
          refine AW_iconst dX2_takeOneMore_84 ?_
          refine AW_zret dX2_takeOneMore_85 rfl (by first | exact Or.inl rfl | exact Or.inr rfl) ?_
          exact hyes _ _ _ _ hB2 _ hE3 hMo)
