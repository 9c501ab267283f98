theorem avX_ge {X : Row} {w : Int} {k t : Nat} : ∀ n, 0 ≤ avX X w k t n ↔ ∃ a, a < n ∧ (a : Int) ≠ w ∧ canB X a k t = true := by
  intro n
  induction n with
  | zero => simp [avX]
  | succ n ih =>
    simp only [avX]
    split
    · rename_i h
      exact ⟨fun _ => ⟨n, by omega, h.1, h.2⟩, fun _ => by omega⟩
    · rename_i h
      rw [ih]
      constructor
      · rintro ⟨a, h1, h2, h3⟩; exact ⟨a, by omega, h2, h3⟩
      · rintro ⟨a, h1, h2, h3⟩
        by_cases e : a = n
        · subst e; exact absurd ⟨h2, h3⟩ h
        · exact ⟨a, by omega, h2, h3⟩
theorem av6 {X : Row} {k t : Nat} : 0 ≤ avX X (-6) k t 4 ↔ ∃ a, a < 4 ∧ canB X a k t = true := by
  rw [avX_ge]
  exact ⟨fun ⟨a, h1, _, h3⟩ => ⟨a, h1, h3⟩, fun ⟨a, h1, h3⟩ => ⟨a, h1, by omega, h3⟩⟩
theorem caN_first {X : Row} {k : Nat} : ∀ n, ((caN X k n).1 = -6 ∧ ∀ t, t < n → ¬ 0 ≤ avX X (-6) k t 4) ∨ ∃ f : Nat, f < n ∧ (caN X k n).1 = f ∧ 0 ≤ avX X (-6) k f 4 ∧ ∀ t, t < f → ¬ 0 ≤ avX X (-6) k t 4 := by
  intro n
  induction n with
  | zero => exact Or.inl ⟨rfl, fun t h => absurd h (Nat.not_lt_zero _)⟩
  | succ n ih =>
    simp only [caN]
    by_cases h : 0 ≤ avX X (-6) k n 4
    · rw [if_pos h]
      dsimp only
      rcases ih with ⟨h1, h2⟩ | ⟨f, h1, h2, h3, h4⟩
      · rw [if_pos (by omega)]
        exact Or.inr ⟨n, by omega, rfl, h, h2⟩
      · rw [if_neg (by omega)]
        exact Or.inr ⟨f, by omega, h2, h3, h4⟩
    · rw [if_neg h]
      rcases ih with ⟨h1, h2⟩ | ⟨f, h1, h2, h3, h4⟩
      · refine Or.inl ⟨h1, fun t ht => ?_⟩
        by_cases e : t = n
        · subst e; exact h
        · exact h2 t (by omega)
      · exact Or.inr ⟨f, by omega, h2, h3, h4⟩
theorem caN_last {X : Row} {k : Nat} : ∀ n, ((caN X k n).2.1 = -6 ∧ ∀ t, t < n → ¬ 0 ≤ avX X (-6) k t 4) ∨ ∃ f : Nat, f < n ∧ (caN X k n).2.1 = f ∧ 0 ≤ avX X (-6) k f 4 ∧ ∀ t, t < n → 0 ≤ avX X (-6) k t 4 → t ≤ f := by
  intro n
  induction n with
  | zero => exact Or.inl ⟨rfl, fun t h => absurd h (Nat.not_lt_zero _)⟩
  | succ n ih =>
    simp only [caN]
    by_cases h : 0 ≤ avX X (-6) k n 4
    · rw [if_pos h]
      dsimp only
      exact Or.inr ⟨n, by omega, rfl, h, fun t ht _ => by omega⟩
    · rw [if_neg h]
      rcases ih with ⟨h1, h2⟩ | ⟨f, h1, h2, h3, h4⟩
      · refine Or.inl ⟨h1, fun t ht => ?_⟩
        by_cases e : t = n
        · subst e; exact h
        · exact h2 t (by omega)
      · refine Or.inr ⟨f, by omega, h2, h3, fun t ht hv => ?_⟩
        by_cases e : t = n
        · subst e; exact absurd hv h
        · exact h4 t (by omega) hv
theorem caN_cnt {X : Row} {k : Nat} : ∀ n, (caN X k n).2.2 = (cnt (fun t => decide (0 ≤ avX X (-6) k t 4)) n : Nat) := by
  intro n
  induction n with
  | zero => rfl
  | succ n ih =>
    simp only [caN, cnt, decide_eq_true_eq]
    by_cases h : 0 ≤ avX X (-6) k n 4
    · rw [if_pos h, if_pos h]
      dsimp only
      omega
    · rw [if_neg h, if_neg h]
      omega
theorem cnt_or {p q r : Nat → Bool} {n : Nat} (h : ∀ t, t < n → (r t = true ↔ p t = true ∨ q t = true)) (hd : ∀ t, t < n → ¬ (p t = true ∧ q t = true)) : cnt r n = cnt p n + cnt q n := by
  induction n with
  | zero => rfl
  | succ n ih =>
    simp only [cnt]
    rw [ih (fun t ht => h t (by omega)) (fun t ht => hd t (by omega))]
    have h1 := h n (by omega)
    have h2 := hd n (by omega)
    by_cases a : p n = true
    · by_cases b : q n = true
      · exact absurd ⟨a, b⟩ h2
      · rw [if_pos (h1.mpr (Or.inl a)), if_pos a, if_neg b]; omega
    · by_cases b : q n = true
      · rw [if_pos (h1.mpr (Or.inr b)), if_neg a, if_pos b]; omega
      · rw [if_neg (fun z => (h1.mp z).elim a b), if_neg a, if_neg b]; omega
theorem cnt_none {p : Nat → Bool} {n : Nat} (h : ∀ t, t < n → p t ≠ true) : cnt p n = 0 := by
  induction n with
  | zero => rfl
  | succ n ih => simp only [cnt]; rw [ih (fun t ht => h t (by omega)), if_neg (h n (by omega))]
theorem succ_div' (m b : Nat) (hb : 0 < b) : (m + 1) / b = m / b + (if b ∣ m + 1 then 1 else 0) := Nat.succ_div
/-- beats from F till L, counted -/
theorem cnt_beats {p : Nat → Bool} {F b : Nat} {L o : Int} (hb : 0 < b) (hF : (b : Int) ∣ (F : Int) - o) (hp : ∀ t, t ≤ 300 → (p t = true ↔ (F : Int) ≤ t ∧ (t : Int) ≤ L ∧ (b : Int) ∣ (t : Int) - o)) : ∀ n, n ≤ 301 → (n ≤ F → cnt p n = 0) ∧ (F < n → (n : Int) ≤ L + 1 → cnt p n = (n - 1 - F) / b + 1) ∧ (∀ l : Nat, L = l → F ≤ l → l < n → cnt p n = (l - F) / b + 1) := by
  intro n
  induction n with
  | zero => intro _; exact ⟨fun _ => rfl, fun h => absurd h (Nat.not_lt_zero _), fun l _ _ h => absurd h (Nat.not_lt_zero _)⟩
  | succ n ih =>
    intro hn
    obtain ⟨i1, i2, i3⟩ := ih (by omega)
    have hpn := hp n (by omega)
    simp only [cnt]
    refine ⟨fun h => ?_, fun h1 h2 => ?_, fun l hl hFl hln => ?_⟩
    · rw [i1 (by omega), if_neg (fun z => by have := (hpn.mp z).1; omega)]
    · by_cases e : n = F
      · subst e
        rw [i1 (Nat.le_refl _), if_pos (hpn.mpr ⟨by omega, by omega, hF⟩), show n + 1 - 1 - n = 0 by omega, Nat.zero_div]
      · rw [i2 (by omega) (by omega)]
        have hs := succ_div' (n - 1 - F) b hb
        rw [show n - 1 - F + 1 = n - F by omega] at hs
        rw [show n + 1 - 1 - F = n - F by omega, hs]
        by_cases d : b ∣ n - F
        · rw [if_pos d, if_pos (hpn.mpr ⟨by omega, by omega, by
            have h3 : (b : Int) ∣ ((n - F : Nat) : Int) := Int.ofNat_dvd.mpr d
            have := Int.dvd_add h3 hF
            rwa [show ((n - F : Nat) : Int) + ((F : Int) - o) = (n : Int) - o by omega] at this⟩)]
        · rw [if_neg d, if_neg (fun z => d (by
            have h3 := Int.dvd_sub (hpn.mp z).2.2 hF
            rw [show (n : Int) - o - ((F : Int) - o) = ((n - F : Nat) : Int) by omega] at h3
            exact Int.ofNat_dvd.mp h3))]
    · by_cases e : l = n
      · subst e
        by_cases e2 : l = F
        · subst e2
          rw [i1 (Nat.le_refl _), if_pos (hpn.mpr ⟨by omega, by omega, hF⟩), Nat.sub_self, Nat.zero_div]
        · rw [i2 (by omega) (by omega)]
          have hs := succ_div' (l - 1 - F) b hb
          rw [show l - 1 - F + 1 = l - F by omega] at hs
          rw [hs]
          by_cases d : b ∣ l - F
          · rw [if_pos d, if_pos (hpn.mpr ⟨by omega, by omega, by
              have h3 : (b : Int) ∣ ((l - F : Nat) : Int) := Int.ofNat_dvd.mpr d
              have := Int.dvd_add h3 hF
              rwa [show ((l - F : Nat) : Int) + ((F : Int) - o) = (l : Int) - o by omega] at this⟩)]
          · rw [if_neg d, if_neg (fun z => d (by
              have h3 := Int.dvd_sub (hpn.mp z).2.2 hF
              rw [show (l : Int) - o - ((F : Int) - o) = ((l - F : Nat) : Int) by omega] at h3
              exact Int.ofNat_dvd.mp h3))]
      · rw [i3 l hl hFl (by omega), if_neg (fun z => by have := (hpn.mp z).2.1; omega)]
theorem can_one {X : Row} (hA : WA X) {a b k t : Nat} (ha : a < 4) (hb : b < 4) (h1 : canB X a k t = true) (h2 : canB X b k t = true) : a = b := by
  unfold canB at h1 h2
  rw [decide_eq_true_eq] at h1 h2
  by_cases e : a = b
  · exact e
  · have := hA.2 a b ha hb e
    omega
theorem l_firstChance {σ : am_S} {X : Row} (hS : WS X) (hT : WT X) (hTO : TO σ X) (hG : GO σ X) (hAO : AO σ X) (hA : WA X) {k : Nat} (hk : (k : Int) < X 6423) : ∀ i : Nat, i ≤ 4 → ∀ first : Int, ((first = 301 ∧ ∀ a, a < i → ∀ t, t ≤ 300 → canB X a k t ≠ true) ∨ ∃ f : Nat, first = f ∧ f ≤ 300 ∧ (∃ a, a < i ∧ canB X a k f = true) ∧ ∀ a, a < i → ∀ t, t ≤ 300 → canB X a k t = true → f ≤ t) → ∀ x : Option am_V, AW am_tab mX3_firstChance 6 [some (vR 2), some (vI (k : Nat)), some (vI first), some (vI (i : Nat)), x] [] σ (QI (fun z σ' => z = (caN X k 301).1 ∧ σ' = σ)) :=
  up_loop (fun i hi ih first hR x => by
    have hfb : 0 ≤ first ∧ first ≤ 301 := by
      rcases hR with ⟨h, _⟩ | ⟨f, h, h2, _⟩ <;> omega
    refine AW_iload_n dX3_firstChance_6 rfl ?_
    refine AW_iconst dX3_firstChance_7 ?_
    refine AW_icmp_ge 43 dX3_firstChance_8 (by decide) (by omega) (by omega) (fun h8 => ?_) (fun h8 => ?_)
    · have e : i = 4 := by omega
      subst e
      refine AW_iload_n dX3_firstChance_43 rfl ?_
      refine AW_sipush dX3_firstChance_44 (by decide) ?_
      refine AW_icmp_ne 55 dX3_firstChance_47 (by decide) (by omega) (by omega) (fun h47 => ?_) (fun h47 => ?_)
      · refine AW_iload_n dX3_firstChance_55 rfl ?_
        refine AW_iret dX3_firstChance_56 rfl ?_
        refine ⟨_, rfl, ?_, rfl⟩
        rcases hR with ⟨h1, h2⟩ | ⟨f, h1, h2, ⟨a, h3, h4⟩, h5⟩
        · rcases caN_first (X := X) (k := k) 301 with ⟨g1, g2⟩ | ⟨g, g1, g2, g3, g4⟩
          · omega
          · obtain ⟨b, hb, hc⟩ := av6.mp g3
            exact absurd hc (h2 b hb g (by omega))
        · rcases caN_first (X := X) (k := k) 301 with ⟨g1, g2⟩ | ⟨g, g1, g2, g3, g4⟩
          · exact absurd (av6.mpr ⟨a, h3, h4⟩) (g2 f (by omega))
          · obtain ⟨b, hb, hc⟩ := av6.mp g3
            have q1 := h5 b hb g (by omega) hc
            have q2 : ¬ f < g := fun q => g4 f q (av6.mpr ⟨a, h3, h4⟩)
            omega
      · refine AW_bipush dX3_firstChance_50 (by decide) ?_
        refine AW_goto (tgt := 56) dX3_firstChance_52 (by decide) ?_
        refine AW_iret dX3_firstChance_56 rfl ?_
        refine ⟨_, rfl, ?_, rfl⟩
        rcases hR with ⟨h1, h2⟩ | ⟨f, h1, h2, ⟨a, h3, h4⟩, h5⟩
        · rcases caN_first (X := X) (k := k) 301 with ⟨g1, g2⟩ | ⟨g, g1, g2, g3, g4⟩
          · omega
          · obtain ⟨b, hb, hc⟩ := av6.mp g3
            exact absurd hc (h2 b hb g (by omega))
        · rcases caN_first (X := X) (k := k) 301 with ⟨g1, g2⟩ | ⟨g, g1, g2, g3, g4⟩
          · exact absurd (av6.mpr ⟨a, h3, h4⟩) (g2 f (by omega))
          · obtain ⟨b, hb, hc⟩ := av6.mp g3
            have q1 := h5 b hb g (by omega) hc
            have q2 : ¬ f < g := fun q => g4 f q (av6.mpr ⟨a, h3, h4⟩)
            omega
    · refine AW_aload_n dX3_firstChance_11 rfl ?_
      refine AW_iload_n dX3_firstChance_12 rfl ?_
      refine AW_iload_n dX3_firstChance_13 rfl ?_
      refine AW_cVI2 dX3_firstChance_14 kX3_109 (am_fit_b rfl) rfl rfl (Nat.le_of_ble_eq_true rfl) (c_firstChanceOf hS hT hTO hG hAO hA (by omega) hk) (fun zF σ' hq => ?_)
      obtain ⟨hs, hF⟩ := hq
      subst hs
      have hFb := hF.2.1
      refine AW_istore (lv' := [_, _, _, _, _]) dX3_firstChance_17 (by decide) (Nat.le_of_ble_eq_true rfl) rfl ?_
      refine AW_iload dX3_firstChance_19 rfl ?_
      refine AW_aload_n dX3_firstChance_21 rfl ?_
      refine AW_iload_n dX3_firstChance_22 rfl ?_
      refine AW_iload_n dX3_firstChance_23 rfl ?_
      refine AW_cVI2 dX3_firstChance_24 kX3_112 (am_fit_b rfl) rfl rfl (Nat.le_of_ble_eq_true rfl) (c_lastChanceOf hS hT hTO hG hAO hA (by omega) hk) (fun zL σ' hq => ?_)
      obtain ⟨hs, hL⟩ := hq
      subst hs
      have hLb : -21 ≤ zL ∧ zL ≤ 300 := by
        rcases hL with ⟨_, h⟩ | ⟨_, _, h, _⟩ <;> omega
      refine AW_icmp_gt 37 dX3_firstChance_27 (by decide) (by omega) (by omega) (fun h27 => ?_) (fun h27 => ?_)
      · refine AW_iinc (lv' := [_, _, _, _, _]) dX3_firstChance_37 rfl (by decide) rfl ?_
        refine AW_goto (tgt := 6) dX3_firstChance_40 (by decide) ?_
        refine ih (by omega) first ?_ _
        have hnone : ∀ t, t ≤ 300 → canB X i k t ≠ true := fun t ht hc => by
          have := (can_iff hF hL ht).mp hc
          omega
        rcases hR with ⟨h1, h2⟩ | ⟨f, h1, h2, ⟨a, h3, h4⟩, h5⟩
        · refine Or.inl ⟨h1, fun a ha t ht => ?_⟩
          by_cases e : a = i
          · subst e; exact hnone t ht
          · exact h2 a (by omega) t ht
        · refine Or.inr ⟨f, h1, h2, ⟨a, by omega, h4⟩, fun b hb t ht hc => ?_⟩
          by_cases e : b = i
          · subst e; exact absurd hc (hnone t ht)
          · exact h5 b (by omega) t ht hc
      · refine AW_iload_n dX3_firstChance_30 rfl ?_
        refine AW_iload dX3_firstChance_31 rfl ?_
        refine AW_cSI2 dX3_firstChance_33 kX3_115 (am_fit_b rfl) (Nat.le_of_ble_eq_true rfl) (c_min (by omega) (by omega)) (fun z σ' hq => ?_)
        obtain ⟨hz, hs⟩ := hq
        replace hz := hz.symm
        subst hz
        replace hs := hs.symm
        subst hs
        refine AW_istore_n (i := 2) (lv' := [_, _, _, _, _]) dX3_firstChance_36 rfl (by decide) (Nat.le_of_ble_eq_true rfl) rfl ?_
        refine AW_iinc (lv' := [_, _, _, _, _]) dX3_firstChance_37 rfl (by decide) rfl ?_
        refine AW_goto (tgt := 6) dX3_firstChance_40 (by decide) ?_
        obtain ⟨F, hFe⟩ : ∃ F : Nat, zF = F := ⟨_, (Int.toNat_of_nonneg (by omega)).symm⟩
        subst hFe
        have hcF : canB X i k F = true := (can_iff hF hL (by omega)).mpr ⟨Int.le_refl _, by omega, hF.1⟩
        have hleF : ∀ t, t ≤ 300 → canB X i k t = true → F ≤ t := fun t ht hc => by
          have := (can_iff hF hL ht).mp hc
          omega
        refine ih (by omega) (min first (F : Int)) ?_ _
        rcases hR with ⟨h1, h2⟩ | ⟨f, h1, h2, ⟨a, h3, h4⟩, h5⟩
        · refine Or.inr ⟨F, by omega, by omega, ⟨i, by omega, hcF⟩, fun a ha t ht hc => ?_⟩
          by_cases e : a = i
          · subst e; exact hleF t ht hc
          · exact absurd hc (h2 a (by omega) t ht)
        · by_cases q : f ≤ F
          · refine Or.inr ⟨f, by omega, h2, ⟨a, by omega, h4⟩, fun b hb t ht hc => ?_⟩
            by_cases e : b = i
            · subst e; have := hleF t ht hc; omega
            · exact h5 b (by omega) t ht hc
          · refine Or.inr ⟨F, by omega, by omega, ⟨i, by omega, hcF⟩, fun b hb t ht hc => ?_⟩
            by_cases e : b = i
            · subst e; exact hleF t ht hc
            · have := h5 b (by omega) t ht hc; omega)
theorem c_firstChance {σ : am_S} {X : Row} (hS : WS X) (hT : WT X) (hTO : TO σ X) (hG : GO σ X) (hAO : AO σ X) (hA : WA X) {k : Nat} (hk : (k : Int) < X 6423) : Runs am_tab mX3_firstChance [vR 2, vI k] σ (QI (fun z σ' => z = (caN X k 301).1 ∧ σ' = σ)) := by
  refine Runs.of (by decide) rfl (by simp) (Nat.le_of_ble_eq_true rfl) ?_
  show AW am_tab mX3_firstChance 0 [some (vR 2), some (vI k), none, none, none] [] σ _
  refine AW_sipush dX3_firstChance_0 (by decide) ?_
  refine AW_istore_n (i := 2) (lv' := [_, _, _, _, _]) dX3_firstChance_3 rfl (by decide) (Nat.le_of_ble_eq_true rfl) rfl ?_
  refine AW_iconst dX3_firstChance_4 ?_
  refine AW_istore_n (i := 3) (lv' := [_, _, _, _, _]) dX3_firstChance_5 rfl (by decide) (Nat.le_of_ble_eq_true rfl) rfl ?_
  exact l_firstChance hS hT hTO hG hAO hA hk 0 (by omega) 301 (Or.inl ⟨rfl, fun a ha => absurd ha (Nat.not_lt_zero _)⟩) _
theorem l_lastChance {σ : am_S} {X : Row} (hS : WS X) (hT : WT X) (hTO : TO σ X) (hG : GO σ X) (hAO : AO σ X) (hA : WA X) {k : Nat} (hk : (k : Int) < X 6423) : ∀ i : Nat, i ≤ 4 → ∀ last : Int, ((last = -1 ∧ ∀ a, a < i → ∀ t, t ≤ 300 → canB X a k t ≠ true) ∨ ∃ f : Nat, last = f ∧ f ≤ 300 ∧ (∃ a, a < i ∧ canB X a k f = true) ∧ ∀ a, a < i → ∀ t, t ≤ 300 → canB X a k t = true → t ≤ f) → ∀ x : Option am_V, AW am_tab mX3_lastChance 4 [some (vR 2), some (vI (k : Nat)), some (vI last), some (vI (i : Nat)), x] [] σ (QI (fun z σ' => z = (caN X k 301).2.1 ∧ σ' = σ)) :=
  up_loop (fun i hi ih last hR x => by
    have hfb : -1 ≤ last ∧ last ≤ 301 := by
      rcases hR with ⟨h, _⟩ | ⟨f, h, h2, _⟩ <;> omega
    refine AW_iload_n dX3_lastChance_4 rfl ?_
    refine AW_iconst dX3_lastChance_5 ?_
    refine AW_icmp_ge 41 dX3_lastChance_6 (by decide) (by omega) (by omega) (fun h6 => ?_) (fun h6 => ?_)
    · have e : i = 4 := by omega
      subst e
      refine AW_iload_n dX3_lastChance_41 rfl ?_
      refine AW_iconst dX3_lastChance_42 ?_
      refine AW_icmp_ne 51 dX3_lastChance_43 (by decide) (by omega) (by omega) (fun h43 => ?_) (fun h43 => ?_)
      · refine AW_iload_n dX3_lastChance_51 rfl ?_
        refine AW_iret dX3_lastChance_52 rfl ?_
        refine ⟨_, rfl, ?_, rfl⟩
        rcases hR with ⟨h1, h2⟩ | ⟨f, h1, h2, ⟨a, h3, h4⟩, h5⟩
        · rcases caN_last (X := X) (k := k) 301 with ⟨g1, g2⟩ | ⟨g, g1, g2, g3, g4⟩
          · omega
          · obtain ⟨b, hb, hc⟩ := av6.mp g3
            exact absurd hc (h2 b hb g (by omega))
        · rcases caN_last (X := X) (k := k) 301 with ⟨g1, g2⟩ | ⟨g, g1, g2, g3, g4⟩
          · exact absurd (av6.mpr ⟨a, h3, h4⟩) (g2 f (by omega))
          · obtain ⟨b, hb, hc⟩ := av6.mp g3
            have q1 := h5 b hb g (by omega) hc
            have q2 := g4 f (by omega) (av6.mpr ⟨a, h3, h4⟩)
            omega
      · refine AW_bipush dX3_lastChance_46 (by decide) ?_
        refine AW_goto (tgt := 52) dX3_lastChance_48 (by decide) ?_
        refine AW_iret dX3_lastChance_52 rfl ?_
        refine ⟨_, rfl, ?_, rfl⟩
        rcases hR with ⟨h1, h2⟩ | ⟨f, h1, h2, ⟨a, h3, h4⟩, h5⟩
        · rcases caN_last (X := X) (k := k) 301 with ⟨g1, g2⟩ | ⟨g, g1, g2, g3, g4⟩
          · omega
          · obtain ⟨b, hb, hc⟩ := av6.mp g3
            exact absurd hc (h2 b hb g (by omega))
        · rcases caN_last (X := X) (k := k) 301 with ⟨g1, g2⟩ | ⟨g, g1, g2, g3, g4⟩
          · exact absurd (av6.mpr ⟨a, h3, h4⟩) (g2 f (by omega))
          · obtain ⟨b, hb, hc⟩ := av6.mp g3
            have q1 := h5 b hb g (by omega) hc
            have q2 := g4 f (by omega) (av6.mpr ⟨a, h3, h4⟩)
            omega
    · refine AW_aload_n dX3_lastChance_9 rfl ?_
      refine AW_iload_n dX3_lastChance_10 rfl ?_
      refine AW_iload_n dX3_lastChance_11 rfl ?_
      refine AW_cVI2 dX3_lastChance_12 kX3_112 (am_fit_b rfl) rfl rfl (Nat.le_of_ble_eq_true rfl) (c_lastChanceOf hS hT hTO hG hAO hA (by omega) hk) (fun zL σ' hq => ?_)
      obtain ⟨hs, hL⟩ := hq
      subst hs
      have hLb : -21 ≤ zL ∧ zL ≤ 300 := by
        rcases hL with ⟨_, h⟩ | ⟨_, _, h, _⟩ <;> omega
      refine AW_istore (lv' := [_, _, _, _, _]) dX3_lastChance_15 (by decide) (Nat.le_of_ble_eq_true rfl) rfl ?_
      refine AW_iload dX3_lastChance_17 rfl ?_
      refine AW_aload_n dX3_lastChance_19 rfl ?_
      refine AW_iload_n dX3_lastChance_20 rfl ?_
      refine AW_iload_n dX3_lastChance_21 rfl ?_
      refine AW_cVI2 dX3_lastChance_22 kX3_109 (am_fit_b rfl) rfl rfl (Nat.le_of_ble_eq_true rfl) (c_firstChanceOf hS hT hTO hG hAO hA (by omega) hk) (fun zF σ' hq => ?_)
      obtain ⟨hs, hF⟩ := hq
      subst hs
      have hFb := hF.2.1
      refine AW_icmp_lt 35 dX3_lastChance_25 (by decide) (by omega) (by omega) (fun h25 => ?_) (fun h25 => ?_)
      · refine AW_iinc (lv' := [_, _, _, _, _]) dX3_lastChance_35 rfl (by decide) rfl ?_
        refine AW_goto (tgt := 4) dX3_lastChance_38 (by decide) ?_
        refine ih (by omega) last ?_ _
        have hnone : ∀ t, t ≤ 300 → canB X i k t ≠ true := fun t ht hc => by
          have := (can_iff hF hL ht).mp hc
          omega
        rcases hR with ⟨h1, h2⟩ | ⟨f, h1, h2, ⟨a, h3, h4⟩, h5⟩
        · refine Or.inl ⟨h1, fun a ha t ht => ?_⟩
          by_cases e : a = i
          · subst e; exact hnone t ht
          · exact h2 a (by omega) t ht
        · refine Or.inr ⟨f, h1, h2, ⟨a, by omega, h4⟩, fun b hb t ht hc => ?_⟩
          by_cases e : b = i
          · subst e; exact absurd hc (hnone t ht)
          · exact h5 b (by omega) t ht hc
      · refine AW_iload_n dX3_lastChance_28 rfl ?_
        refine AW_iload dX3_lastChance_29 rfl ?_
        refine AW_cSI2 dX3_lastChance_31 kX3_97 (am_fit_b rfl) (Nat.le_of_ble_eq_true rfl) (c_max (by omega) (by omega)) (fun z σ' hq => ?_)
        obtain ⟨hz, hs⟩ := hq
        replace hz := hz.symm
        subst hz
        replace hs := hs.symm
        subst hs
        refine AW_istore_n (i := 2) (lv' := [_, _, _, _, _]) dX3_lastChance_34 rfl (by decide) (Nat.le_of_ble_eq_true rfl) rfl ?_
        refine AW_iinc (lv' := [_, _, _, _, _]) dX3_lastChance_35 rfl (by decide) rfl ?_
        refine AW_goto (tgt := 4) dX3_lastChance_38 (by decide) ?_
        obtain ⟨F, hFe⟩ : ∃ F : Nat, zL = F := ⟨_, (Int.toNat_of_nonneg (by omega)).symm⟩
        subst hFe
        have hLd : X (6409 + i) ∣ (F : Int) - X (6413 + i) := by
          rcases hL with ⟨_, h⟩ | ⟨_, h, _⟩
          · omega
          · exact h
        have hcF : canB X i k F = true := (can_iff hF hL (by omega)).mpr ⟨by omega, Int.le_refl _, hLd⟩
        have hleF : ∀ t, t ≤ 300 → canB X i k t = true → t ≤ F := fun t ht hc => by
          have := (can_iff hF hL ht).mp hc
          omega
        refine ih (by omega) (max last (F : Int)) ?_ _
        rcases hR with ⟨h1, h2⟩ | ⟨f, h1, h2, ⟨a, h3, h4⟩, h5⟩
        · refine Or.inr ⟨F, by omega, by omega, ⟨i, by omega, hcF⟩, fun a ha t ht hc => ?_⟩
          by_cases e : a = i
          · subst e; exact hleF t ht hc
          · exact absurd hc (h2 a (by omega) t ht)
        · by_cases q : F ≤ f
          · refine Or.inr ⟨f, by omega, h2, ⟨a, by omega, h4⟩, fun b hb t ht hc => ?_⟩
            by_cases e : b = i
            · subst e; have := hleF t ht hc; omega
            · exact h5 b (by omega) t ht hc
          · refine Or.inr ⟨F, by omega, by omega, ⟨i, by omega, hcF⟩, fun b hb t ht hc => ?_⟩
            by_cases e : b = i
            · subst e; exact hleF t ht hc
            · have := h5 b (by omega) t ht hc; omega)
theorem c_lastChance {σ : am_S} {X : Row} (hS : WS X) (hT : WT X) (hTO : TO σ X) (hG : GO σ X) (hAO : AO σ X) (hA : WA X) {k : Nat} (hk : (k : Int) < X 6423) : Runs am_tab mX3_lastChance [vR 2, vI k] σ (QI (fun z σ' => z = (caN X k 301).2.1 ∧ σ' = σ)) := by
  refine Runs.of (by decide) rfl (by simp) (Nat.le_of_ble_eq_true rfl) ?_
  show AW am_tab mX3_lastChance 0 [some (vR 2), some (vI k), none, none, none] [] σ _
  refine AW_iconst dX3_lastChance_0 ?_
  refine AW_istore_n (i := 2) (lv' := [_, _, _, _, _]) dX3_lastChance_1 rfl (by decide) (Nat.le_of_ble_eq_true rfl) rfl ?_
  refine AW_iconst dX3_lastChance_2 ?_
  refine AW_istore_n (i := 3) (lv' := [_, _, _, _, _]) dX3_lastChance_3 rfl (by decide) (Nat.le_of_ble_eq_true rfl) rfl ?_
  exact l_lastChance hS hT hTO hG hAO hA hk 0 (by omega) (-1) (Or.inl ⟨rfl, fun a ha => absurd ha (Nat.not_lt_zero _)⟩) _
theorem l_chances {σ : am_S} {X : Row} (hS : WS X) (hT : WT X) (hTO : TO σ X) (hG : GO σ X) (hAO : AO σ X) (hA : WA X) {k : Nat} (hk : (k : Int) < X 6423) : ∀ i : Nat, i ≤ 4 → ∀ x : Option am_V, AW am_tab mX3_chances 4 [some (vR 2), some (vI (k : Nat)), some (vI (cnt (fun t => decide (0 ≤ avX X (-6) k t i)) 301 : Nat)), some (vI (i : Nat)), x] [] σ (QI (fun z σ' => z = (caN X k 301).2.2 ∧ σ' = σ)) :=
  up_loop (fun i hi ih x => by
    have hcb := cnt_le (fun t => decide (0 ≤ avX X (-6) k t i)) 301
    refine AW_iload_n dX3_chances_4 rfl ?_
    refine AW_iconst dX3_chances_5 ?_
    refine AW_icmp_ge 56 dX3_chances_6 (by decide) (by omega) (by omega) (fun h6 => ?_) (fun h6 => ?_)
    · refine AW_iload_n dX3_chances_56 rfl ?_
      refine AW_iret dX3_chances_57 rfl ?_
      have e : i = 4 := by omega
      subst e
      exact ⟨_, rfl, (caN_cnt 301).symm, rfl⟩
    · have hb := hA.1 i (by omega)
      have ho := hAO i (by omega)
      refine AW_aload_n dX3_chances_9 rfl ?_
      refine AW_iload_n dX3_chances_10 rfl ?_
      refine AW_iload_n dX3_chances_11 rfl ?_
      refine AW_cVI2 dX3_chances_12 kX3_112 (am_fit_b rfl) rfl rfl (Nat.le_of_ble_eq_true rfl) (c_lastChanceOf hS hT hTO hG hAO hA (by omega) hk) (fun zL σ' hq => ?_)
      obtain ⟨hs, hL⟩ := hq
      subst hs
      have hLb : -21 ≤ zL ∧ zL ≤ 300 := by
        rcases hL with ⟨_, h⟩ | ⟨_, _, h, _⟩ <;> omega
      refine AW_aload_n dX3_chances_15 rfl ?_
      refine AW_iload_n dX3_chances_16 rfl ?_
      refine AW_iload_n dX3_chances_17 rfl ?_
      refine AW_cVI2 dX3_chances_18 kX3_109 (am_fit_b rfl) rfl rfl (Nat.le_of_ble_eq_true rfl) (c_firstChanceOf hS hT hTO hG hAO hA (by omega) hk) (fun zF σ' hq => ?_)
      obtain ⟨hs, hF⟩ := hq
      subst hs
      have hFb := hF.2.1
      refine AW_isub dX3_chances_21 ?_
      refine AW_istore (lv' := [_, _, _, _, _]) dX3_chances_22 (by decide) (Nat.le_of_ble_eq_true rfl) rfl ?_
      refine AW_iload dX3_chances_24 rfl ?_
      refine AW_if_lt 50 dX3_chances_26 (by decide) (by omega) (fun h26 => ?_) (fun h26 => ?_)
      · refine AW_iinc (lv' := [_, _, _, _, _]) dX3_chances_50 rfl (by decide) rfl ?_
        refine AW_goto (tgt := 4) dX3_chances_53 (by decide) ?_
        have hstep : cnt (fun t => decide (0 ≤ avX X (-6) k t (i + 1))) 301 = cnt (fun t => decide (0 ≤ avX X (-6) k t i)) 301 + cnt (fun t => canB X i k t) 301 := by
          refine cnt_or (fun t ht => ?_) (fun t ht => ?_)
          · rw [decide_eq_true_eq, decide_eq_true_eq, avX_ge, avX_ge]
            constructor
            · rintro ⟨a, h1, h2, h3⟩
              by_cases e : a = i
              · subst e; exact Or.inr h3
              · exact Or.inl ⟨a, by omega, h2, h3⟩
            · rintro (⟨a, h1, h2, h3⟩ | h)
              · exact ⟨a, by omega, h2, h3⟩
              · exact ⟨i, by omega, by omega, h⟩
          · rw [decide_eq_true_eq, avX_ge]
            rintro ⟨⟨a, h1, h2, h3⟩, h4⟩
            have := can_one hA (by omega) (by omega) h3 h4
            omega
        have h0 : cnt (fun t => canB X i k t) 301 = 0 := cnt_none (fun t ht hc => by
          have := (can_iff hF hL (by omega)).mp hc
          omega)
        have h9 := ih (by omega) (some (vI (zL - zF)))
        rw [hstep, h0, Nat.add_zero] at h9
        exact h9
      · refine AW_iload_n dX3_chances_29 rfl ?_
        refine AW_iload dX3_chances_30 rfl ?_
        refine AW_iconst dX3_chances_32 ?_
        refine AW_aload_n dX3_chances_33 rfl ?_
        refine AW_get dX3_chances_34 fX3_28 rfl rfl ?_
        refine AW_get dX3_chances_37 fX3_118 rfl rfl ?_
        refine AW_iload_n dX3_chances_40 rfl ?_
        refine AW_ialdN (j := i) dX3_chances_41 rfl (Nat.le_of_ble_eq_true rfl) (by omega) (by omega) ?_
        rw [ho.2.2.1]
        refine AW_cSI2 dX3_chances_42 kX3_97 (am_fit_b rfl) (Nat.le_of_ble_eq_true rfl) (c_max (by omega) (by omega)) (fun z σ' hq => ?_)
        obtain ⟨hz, hs⟩ := hq
        replace hz := hz.symm
        subst hz
        replace hs := hs.symm
        subst hs
        rw [show max 1 (X (6409 + i)) = X (6409 + i) by omega]
        refine AW_idiv dX3_chances_45 (by omega) (by omega) (by omega) ?_
        refine AW_iconst dX3_chances_46 ?_
        refine AW_iadd dX3_chances_47 ?_
        refine AW_iadd dX3_chances_48 ?_
        refine AW_istore_n (i := 2) (lv' := [_, _, _, _, _]) dX3_chances_49 rfl (by decide) (Nat.le_of_ble_eq_true rfl) rfl ?_
        refine AW_iinc (lv' := [_, _, _, _, _]) dX3_chances_50 rfl (by decide) rfl ?_
        refine AW_goto (tgt := 4) dX3_chances_53 (by decide) ?_
        have hstep : cnt (fun t => decide (0 ≤ avX X (-6) k t (i + 1))) 301 = cnt (fun t => decide (0 ≤ avX X (-6) k t i)) 301 + cnt (fun t => canB X i k t) 301 := by
          refine cnt_or (fun t ht => ?_) (fun t ht => ?_)
          · rw [decide_eq_true_eq, decide_eq_true_eq, avX_ge, avX_ge]
            constructor
            · rintro ⟨a, h1, h2, h3⟩
              by_cases e : a = i
              · subst e; exact Or.inr h3
              · exact Or.inl ⟨a, by omega, h2, h3⟩
            · rintro (⟨a, h1, h2, h3⟩ | h)
              · exact ⟨a, by omega, h2, h3⟩
              · exact ⟨i, by omega, by omega, h⟩
          · rw [decide_eq_true_eq, avX_ge]
            rintro ⟨⟨a, h1, h2, h3⟩, h4⟩
            have := can_one hA (by omega) (by omega) h3 h4
            omega
        obtain ⟨F, hFe⟩ : ∃ F : Nat, zF = F := ⟨_, (Int.toNat_of_nonneg (by omega)).symm⟩
        obtain ⟨l, hLe⟩ : ∃ l : Nat, zL = l := ⟨_, (Int.toNat_of_nonneg (by omega)).symm⟩
        obtain ⟨b, hbe⟩ : ∃ b : Nat, X (6409 + i) = b := ⟨_, (Int.toNat_of_nonneg (by omega)).symm⟩
        subst hFe
        subst hLe
        have hcn := (cnt_beats (p := fun t => canB X i k t) (F := F) (b := b) (L := (l : Int)) (o := X (6413 + i)) (by omega) (by rw [← hbe]; exact hF.1) (fun t ht => by rw [← hbe]; exact can_iff hF hL ht) 301 (Nat.le_refl _)).2.2 l rfl (by omega) (by omega)
        have hdv : ((l : Int) - (F : Int)).tdiv (X (6409 + i)) = (((l - F) / b : Nat) : Int) := by
          rw [hbe, Int.tdiv_eq_ediv_of_nonneg (by omega), show (l : Int) - (F : Int) = ((l - F : Nat) : Int) by omega]
          rfl
        rw [hdv]
        have h9 := ih (by omega) (some (vI ((l : Int) - (F : Int))))
        rw [hstep, hcn] at h9
        rw [show ((cnt (fun t => decide (0 ≤ avX X (-6) k t i)) 301 : Nat) : Int) + ((((l - F) / b : Nat) : Int) + 1) = ((cnt (fun t => decide (0 ≤ avX X (-6) k t i)) 301 + ((l - F) / b + 1) : Nat) : Int) from rfl]
        exact h9)
theorem c_chances {σ : am_S} {X : Row} (hS : WS X) (hT : WT X) (hTO : TO σ X) (hG : GO σ X) (hAO : AO σ X) (hA : WA X) {k : Nat} (hk : (k : Int) < X 6423) : Runs am_tab mX3_chances [vR 2, vI k] σ (QI (fun z σ' => z = (caN X k 301).2.2 ∧ σ' = σ)) := by
  refine Runs.of (by decide) rfl (by simp) (Nat.le_of_ble_eq_true rfl) ?_
  show AW am_tab mX3_chances 0 [some (vR 2), some (vI k), none, none, none] [] σ _
  refine AW_iconst dX3_chances_0 ?_
  refine AW_istore_n (i := 2) (lv' := [_, _, _, _, _]) dX3_chances_1 rfl (by decide) (Nat.le_of_ble_eq_true rfl) rfl ?_
  refine AW_iconst dX3_chances_2 ?_
  refine AW_istore_n (i := 3) (lv' := [_, _, _, _, _]) dX3_chances_3 rfl (by decide) (Nat.le_of_ble_eq_true rfl) rfl ?_
  have h0 : cnt (fun t => decide (0 ≤ avX X (-6) k t 0)) 301 = 0 := cnt_none (fun t ht => by simp [avX])
  have h9 := l_chances hS hT hTO hG hAO hA hk 0 (by omega) none
  rw [h0] at h9
  exact h9
