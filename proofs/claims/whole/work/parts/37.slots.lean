/-! ===== the slots of a THING, listed ===== -/
def LsP (A : Nat → Sl → Prop) (k : Nat) (R : Sl → Prop) (SL : Row) (c : Nat) : Prop := c ≤ 20 ∧ (∀ i, i < c → ∃ s, A k s ∧ R s ∧ SL (20 * k + i) = enc4 s) ∧ (∀ i j s s', i < j → j < c → okS s → okS s' → SL (20 * k + i) = enc4 s → SL (20 * k + j) = enc4 s' → s.1 < s'.1) ∧ ∀ s, A k s → R s → (∃ i, i < c ∧ SL (20 * k + i) = enc4 s) ∨ (c = 20 ∧ ∀ i s', i < 20 → okS s' → SL (20 * k + i) = enc4 s' → s'.1 < s.1)
theorem LsP.ok {A : Nat → Sl → Prop} {k : Nat} {R : Sl → Prop} {SL SC : Row} {c : Nat} (h : LsP A k R SL c) (hc : SC k = (c : Nat)) (hR : ∀ s, A k s → R s) : LsOK A k SL SC := ⟨c, hc, h.1, fun i hi => by obtain ⟨s, a, _, e⟩ := h.2.1 i hi; exact ⟨s, a, e⟩, h.2.2.1, fun s hs => h.2.2.2 s hs (hR s hs)⟩
theorem LsP.congr {A : Nat → Sl → Prop} {k : Nat} {R : Sl → Prop} {SL SL' : Row} {c : Nat} (h : LsP A k R SL c) (he : ∀ i, i < 20 → SL' (20 * k + i) = SL (20 * k + i)) : LsP A k R SL' c := by
  obtain ⟨h1, h2, h3, h4⟩ := h
  refine ⟨h1, fun i hi => by rw [he i (by omega)]; exact h2 i hi, fun i j s s' hij hj o o' e e' => ?_, fun s hs hR => ?_⟩
  · rw [he i (by omega)] at e
    rw [he j (by omega)] at e'
    exact h3 i j s s' hij hj o o' e e'
  · rcases h4 s hs hR with ⟨i, hi, e⟩ | ⟨hc, g⟩
    · exact Or.inl ⟨i, hi, by rw [he i (by omega)]; exact e⟩
    · exact Or.inr ⟨hc, fun i s' hi o e => g i s' hi o (by rw [he i hi] at e; exact e)⟩
theorem LsP.add {A : Nat → Sl → Prop} (hAok : ∀ k s, A k s → okS s) {k : Nat} {R R' : Sl → Prop} {SL : Row} {c : Nat} {s0 : Sl} (h : LsP A k R SL c) (hc : c < 20) (hA : A k s0) (hlt : ∀ s, A k s → R s → s.1 < s0.1) (h0 : R' s0) (hR1 : ∀ s, A k s → R s → R' s) (hR2 : ∀ s, A k s → R' s → R s ∨ s = s0) : LsP A k R' (rup SL (20 * k + c) (enc4 s0)) (c + 1) := by
  obtain ⟨h1, h2, h3, h4⟩ := h
  have at_lt : ∀ i, i < c → rup SL (20 * k + c) (enc4 s0) (20 * k + i) = SL (20 * k + i) := fun i hi => if_neg (by omega)
  have at_c : rup SL (20 * k + c) (enc4 s0) (20 * k + c) = enc4 s0 := if_pos rfl
  refine ⟨by omega, fun i hi => ?_, fun i j s s' hij hj o o' e e' => ?_, fun s hs hR => Or.inl ?_⟩
  · by_cases z : i = c
    · subst z; exact ⟨s0, hA, h0, at_c⟩
    · obtain ⟨s, a, b, e⟩ := h2 i (by omega)
      exact ⟨s, a, hR1 s a b, by rw [at_lt i (by omega)]; exact e⟩
  · rw [at_lt i (by omega)] at e
    by_cases z : j = c
    · subst z
      rw [at_c] at e'
      have : s' = s0 := enc4_inj o' (hAok k s0 hA) (by omega)
      subst this
      obtain ⟨s2, a2, b2, e2⟩ := h2 i hij
      have : s = s2 := enc4_inj o (hAok k s2 a2) (by omega)
      subst this
      exact hlt s a2 b2
    · rw [at_lt j (by omega)] at e'
      exact h3 i j s s' hij (by omega) o o' e e'
  · rcases hR2 s hs hR with g | g
    · rcases h4 s hs g with ⟨i, hi, e⟩ | ⟨q, _⟩
      · exact ⟨i, by omega, by rw [at_lt i hi]; exact e⟩
      · omega
    · subst g; exact ⟨c, by omega, at_c⟩
theorem LsP.mono {A : Nat → Sl → Prop} (hAok : ∀ k s, A k s → okS s) {k : Nat} {R R' : Sl → Prop} {SL : Row} {c : Nat} (h : LsP A k R SL c) (hR1 : ∀ s, A k s → R s → R' s) (hR2 : ∀ s, A k s → R' s → R s ∨ (c = 20 ∧ ∀ s', A k s' → R s' → s'.1 < s.1)) : LsP A k R' SL c := by
  obtain ⟨h1, h2, h3, h4⟩ := h
  refine ⟨h1, fun i hi => ?_, h3, fun s hs hR => ?_⟩
  · obtain ⟨s, a, b, e⟩ := h2 i hi
    exact ⟨s, a, hR1 s a b, e⟩
  · rcases hR2 s hs hR with g | ⟨g1, g2⟩
    · exact h4 s hs g
    · refine Or.inr ⟨g1, fun i s' hi o e => ?_⟩
      obtain ⟨s2, a2, b2, e2⟩ := h2 i (by omega)
      have : s' = s2 := enc4_inj o (hAok k s2 a2) (by omega)
      subst this
      exact g2 s' a2 b2
theorem gA_ok {X : Row} {w : Int} : ∀ k s, gA X w k s → okS s := fun _ _ h => h.1
theorem gA_can {X : Row} (hA : WA X) {w : Int} {k t a : Nat} (ha : a < 4) (ht : t ≤ 300) : gA X w k (t, a) ↔ (a : Int) ≠ w ∧ canB X a k t = true := by
  have key : ∀ n, n ≤ 4 → (avX X w k t n = (a : Int) ↔ a < n ∧ (a : Int) ≠ w ∧ canB X a k t = true) := by
    intro n
    induction n with
    | zero => intro _; simp only [avX]; omega
    | succ n ih =>
      intro hn
      simp only [avX]
      by_cases h : (n : Int) ≠ w ∧ canB X n k t = true
      · rw [if_pos h]
        constructor
        · intro e
          have : n = a := by omega
          subst this
          exact ⟨by omega, h⟩
        · rintro ⟨_, _, h3⟩
          rw [can_one hA (by omega) (by omega) h.2 h3]
      · rw [if_neg h, ih (by omega)]
        constructor
        · rintro ⟨h1, h2⟩; exact ⟨by omega, h2⟩
        · rintro ⟨h1, h2⟩
          refine ⟨?_, h2⟩
          have : a ≠ n := fun e => h (e ▸ h2)
          omega
  unfold gA
  rw [key 4 (Nat.le_refl _)]
  exact ⟨fun h => h.2.2, fun h => ⟨⟨ht, ha⟩, ha, h⟩⟩
/-- along the belt: who is reached later is reached at a later TICK -/
theorem along {X : Row} (hS : WS X) (hA : WA X) {a b k t u : Nat} (ha : a < 4) (hb : b < 4) (ht : t ≤ 300) (hu : u ≤ 300) (h : X (6401 + a) < X (6401 + b)) (h1 : canB X a k t = true) (h2 : canB X b k u = true) : t < u := by
  unfold canB at h1 h2
  rw [decide_eq_true_eq] at h1 h2
  have hd := hA.2 a b ha hb (fun e => by subst e; omega)
  have w1 := hA.1 a ha
  have w2 := hA.1 b hb
  by_cases q : t < u
  · exact q
  · have := gn_le hS (t := u) (u := t) (by omega) (by omega)
    have e1 := plc_0 (X := X) (k := k) (t := t)
    have e2 := plc_0 (X := X) (k := k) (t := u)
    omega
theorem l_fill {T : List am_C} {σ : am_S} {a n : Nat} {v : Int} (h : T[a]? = some (.inr (.inl (0, n)))) (hn : n < 2147483648) : ∀ i : Nat, i ≤ n → AW T mJ7_fill_53178 5 [some (vR a), some (vI v), some (vI (i : Nat)), some (vI (n : Nat))] [] (am_row σ a i (fun _ => v)) (QV (fun σ' => σ' = am_row σ a n (fun _ => v))) :=
  up_loop (fun i hi ih => by
    refine AW_iload_n dJ7_fill_53178_5 rfl ?_
    refine AW_iload_n dJ7_fill_53178_6 rfl ?_
    refine AW_icmp_ge 20 dJ7_fill_53178_7 (by decide) (by omega) (by omega) (fun h7 => ?_) (fun h7 => ?_)
    · refine AW_vret dJ7_fill_53178_20 rfl ?_
      have e : i = n := by omega
      subst e
      exact ⟨rfl, rfl⟩
    · refine AW_aload_n dJ7_fill_53178_10 rfl ?_
      refine AW_iload_n dJ7_fill_53178_11 rfl ?_
      refine AW_iload_n dJ7_fill_53178_12 rfl ?_
      refine AW_iastN (j := i) dJ7_fill_53178_13 h hn (by omega) (by omega) ?_
      refine AW_iinc (lv' := [_, _, _, _]) dJ7_fill_53178_14 rfl (by decide) rfl ?_
      refine AW_goto (tgt := 5) dJ7_fill_53178_17 (by decide) ?_
      rw [am_row_s (g := fun _ => v) rfl]
      exact ih (by omega))
theorem c_fill {T : List am_C} {σ : am_S} {a n : Nat} {v : Int} (h : T[a]? = some (.inr (.inl (0, n)))) (hn : n < 2147483648) : Runs T mJ7_fill_53178 [vR a, vI v] σ (QV (fun σ' => σ' = am_row σ a n (fun _ => v))) := by
  refine Runs.of (by decide) rfl (by simp) (Nat.le_of_ble_eq_true rfl) ?_
  show AW T mJ7_fill_53178 0 [some (vR a), some (vI v), none, none] [] σ _
  refine AW_iconst dJ7_fill_53178_0 ?_
  refine AW_istore_n (i := 2) (lv' := [_, _, _, _]) dJ7_fill_53178_1 rfl (by decide) (Nat.le_of_ble_eq_true rfl) rfl ?_
  refine AW_aload_n dJ7_fill_53178_2 rfl ?_
  refine AW_alen dJ7_fill_53178_3 h ?_
  refine AW_istore_n (i := 3) (lv' := [_, _, _, _]) dJ7_fill_53178_4 rfl (by decide) (Nat.le_of_ble_eq_true rfl) rfl ?_
  have h9 := l_fill (σ := σ) (v := v) h hn 0 (by omega)
  rw [am_row_0] at h9
  exact h9
