/-! ===== the reference's search: slots as it numbers them ===== -/
def enc (s : Sl) : Nat := 301 * s.2 + s.1
def dec (c : Nat) : Sl := (c % 301, c / 301)
def okS (s : Sl) : Prop := s.1 ≤ 300 ∧ s.2 < 4
theorem dec_enc {s : Sl} (h : okS s) : dec (enc s) = s := by
  obtain ⟨t, a⟩ := s
  have h1 : t ≤ 300 := h.1
  simp only [dec, enc, Prod.mk.injEq]
  omega
theorem enc_dec {c : Nat} : enc (dec c) = c := by
  simp only [dec, enc]
  omega
theorem enc_lt {s : Sl} (h : okS s) : enc s < 1204 := by
  obtain ⟨t, a⟩ := s
  have h1 : t ≤ 300 := h.1
  have h2 : a < 4 := h.2
  simp only [enc]
  omega
theorem okS_dec {c : Nat} (h : c < 1204) : okS (dec c) := by
  simp only [okS, dec]
  omega
theorem enc_inj {s s' : Sl} (h : okS s) (h' : okS s') (e : enc s = enc s') : s = s' := by
  rw [← dec_enc h, ← dec_enc h', e]
/-- rows that hold a PLAN f: who takes each slot, which slot each has -/
def Con (n : Nat) (Tk So : Row) (f : Nat → Option Sl) : Prop := (∀ k, k < 20 → f k = none → So k = -6) ∧ (∀ k s, f k = some s → k < n ∧ okS s ∧ So k = enc s) ∧ (∀ k s, f k = some s → Tk (enc s) = k) ∧ ∀ x, x < 1204 → Tk x = -6 ∨ ∃ k : Nat, k < n ∧ Tk x = k ∧ f k = some (dec x)
/-- the same but for the slot c, which nobody has -/
def ConH (n : Nat) (Tk So : Row) (f : Nat → Option Sl) (c : Nat) : Prop := (∀ k, k < 20 → f k = none → So k = -6) ∧ (∀ k s, f k = some s → k < n ∧ okS s ∧ So k = enc s ∧ enc s ≠ c) ∧ (∀ k s, f k = some s → Tk (enc s) = k) ∧ ∀ x, x < 1204 → x ≠ c → Tk x = -6 ∨ ∃ k : Nat, k < n ∧ Tk x = k ∧ f k = some (dec x)
theorem Con.hole {n c : Nat} {Tk So : Row} {f : Nat → Option Sl} (h : Con n Tk So f) (hc : ∀ k, f k ≠ some (dec c)) (hc2 : c < 1204) : ConH n Tk So f c := by
  refine ⟨h.1, fun k s hk => ?_, h.2.2.1, fun x hx _ => h.2.2.2 x hx⟩
  obtain ⟨a, b, d⟩ := h.2.1 k s hk
  refine ⟨a, b, d, fun e => hc k ?_⟩
  rw [hk, ← e, dec_enc b]
theorem ConH.step {n c k : Nat} {Tk So : Row} {f : Nat → Option Sl} (h : ConH n Tk So f c) (hc : c < 1204) (hk : k < n) (hn : n ≤ 20) (hi : ∀ i j s, f i = some s → f j = some s → i = j) : (∀ s, f k = some s → ConH n (rup Tk c k) (rup So k c) (put f k (dec c)) (enc s)) ∧ (f k = none → Con n (rup Tk c k) (rup So k c) (put f k (dec c))) := by
  have e1 : ∀ j, j < 20 → put f k (dec c) j = none → rup So k c j = -6 := by
    intro j hj he
    by_cases hjk : j = k
    · subst hjk; rw [put_self] at he; cases he
    · rw [put_ne hjk] at he
      simp only [rup, if_neg hjk]
      exact h.1 j hj he
  have e2 : ∀ j s, put f k (dec c) j = some s → j < n ∧ okS s ∧ rup So k c j = enc s := by
    intro j s he
    by_cases hjk : j = k
    · subst hjk
      rw [put_self] at he
      cases he
      exact ⟨hk, okS_dec hc, by simp only [rup, if_true, enc_dec]⟩
    · rw [put_ne hjk] at he
      obtain ⟨a, b, d, _⟩ := h.2.1 j s he
      exact ⟨a, b, by simp only [rup, if_neg hjk]; exact d⟩
  have e3 : ∀ j s, put f k (dec c) j = some s → rup Tk c k (enc s) = j := by
    intro j s he
    by_cases hjk : j = k
    · subst hjk
      rw [put_self] at he
      cases he
      simp only [rup, enc_dec, if_true]
    · rw [put_ne hjk] at he
      have hne := (h.2.1 j s he).2.2.2
      simp only [rup, if_neg hne]
      exact h.2.2.1 j s he
  constructor
  · intro s hs
    obtain ⟨_, bs, _, nes⟩ := h.2.1 k s hs
    refine ⟨e1, fun j x he => ?_, e3, fun x hx hxe => ?_⟩
    · obtain ⟨a, b, d⟩ := e2 j x he
      refine ⟨a, b, d, fun e => ?_⟩
      have hx := enc_inj b bs e
      subst hx
      by_cases hjk : j = k
      · subst hjk
        rw [put_self] at he
        cases he
        exact nes enc_dec
      · rw [put_ne hjk] at he
        exact hjk (hi j k x he hs)
    · by_cases hxc : x = c
      · subst hxc
        exact Or.inr ⟨k, hk, by simp only [rup, if_true], put_self⟩
      · simp only [rup, if_neg hxc]
        rcases h.2.2.2 x hx hxc with h1 | ⟨j, h1, h2, h3⟩
        · exact Or.inl h1
        · refine Or.inr ⟨j, h1, h2, ?_⟩
          have : j ≠ k := fun e => by
            subst e
            rw [hs] at h3
            cases h3
            exact hxe enc_dec.symm
          rw [put_ne this]
          exact h3
  · intro hs
    refine ⟨e1, e2, e3, fun x hx => ?_⟩
    by_cases hxc : x = c
    · subst hxc
      exact Or.inr ⟨k, hk, by simp only [rup, if_true], put_self⟩
    · simp only [rup, if_neg hxc]
      rcases h.2.2.2 x hx hxc with h1 | ⟨j, h1, h2, h3⟩
      · exact Or.inl h1
      · refine Or.inr ⟨j, h1, h2, ?_⟩
        have : j ≠ k := fun e => by
          subst e
          rw [hs] at h3
          cases h3
        rw [put_ne this]
        exact h3
/-- all rows but those of S are as before -/
def Eqx (S : List Nat) (σ σ' : am_S) : Prop := (∀ a, a ∉ S → σ'.1 a = σ.1 a) ∧ σ'.2 = σ.2
theorem Eqx.rf {S : List Nat} {σ : am_S} : Eqx S σ σ := ⟨fun _ _ => rfl, rfl⟩
theorem Eqx.tr {S : List Nat} {σ σ' σ'' : am_S} (h : Eqx S σ σ') (h2 : Eqx S σ' σ'') : Eqx S σ σ'' := ⟨fun a ha => (h2.1 a ha).trans (h.1 a ha), h2.2.trans h.2⟩
theorem Eqx.up {S : List Nat} {σ σ' : am_S} (h : Eqx S σ σ') {a j : Nat} {x : Int} (ha : a ∈ S) : Eqx S σ (am_up σ' a j x) := ⟨fun b hb => by
  rw [am_up_other (show b ≠ a from fun e => hb (by rw [e]; exact ha))]
  exact h.1 b hb, h.2⟩
theorem Eqx.row {S : List Nat} {σ σ' : am_S} (h : Eqx S σ σ') {a n : Nat} {g : Row} (ha : a ∈ S) : Eqx S σ (am_row σ' a n g) := ⟨fun b hb => by
  rw [am_row_other (show b ≠ a from fun e => hb (by rw [e]; exact ha))]
  exact h.1 b hb, h.2⟩
theorem Eqx.mono {S S' : List Nat} {σ σ' : am_S} (h : Eqx S σ σ') (hs : ∀ a ∈ S, a ∈ S') : Eqx S' σ σ' := ⟨fun a ha => h.1 a (fun e => ha (hs a e)), h.2⟩
theorem Mg.put {A : Nat → Sl → Prop} {P : Nat → Prop} {F : Sl → Prop} {f : Nat → Option Sl} (h : Mg A P F f) {k : Nat} {s : Sl} (hP : P k) (hA : A k s) (hF : ¬ F s) (hs : ∀ j, f j ≠ some s) : Mg A P F (put f k s) := by
  refine ⟨fun j x hj => ?_, fun i j x hi hj => ?_⟩
  · by_cases hjk : j = k
    · subst hjk; rw [put_self] at hj; cases hj; exact ⟨hP, hA, hF⟩
    · rw [put_ne hjk] at hj; exact h.1 j x hj
  · by_cases hik : i = k
    · subst hik
      rw [put_self] at hi
      cases hi
      by_cases hjk : j = i
      · exact hjk.symm
      · rw [put_ne hjk] at hj; exact absurd hj (hs j)
    · rw [put_ne hik] at hi
      by_cases hjk : j = k
      · subst hjk; rw [put_self] at hj; cases hj; exact absurd hi (hs i)
      · rw [put_ne hjk] at hj; exact h.2 i j x hi hj
/-- a search's tree: things q 0, q 1 .. as they came, each but the first by the slot that it has, each slot W from a thing that could have it -/
def Tree (A : Nat → Sl → Prop) (F : Sl → Prop) (n : Nat) (f : Nat → Option Sl) (thing op : Nat) (W : Row) (q : Nat → Nat) : Prop :=
  (∀ i j, i < op → j < op → q i = q j → i = j) ∧ q 0 = thing ∧ 0 < op ∧ (∀ j, j < op → q j < n) ∧ (∀ j, 0 < j → j < op → ∃ s, f (q j) = some s ∧ ∃ i, i < j ∧ W (enc s) = q i) ∧ ∀ c, c < 1204 → W c = -6 ∨ ∃ j, j < op ∧ W c = q j ∧ A (q j) (dec c) ∧ ¬ F (dec c)
/-- what one more taken leaves -/
def More (A : Nat → Sl → Prop) (P : Nat → Prop) (F : Sl → Prop) (n : Nat) (f : Nat → Option Sl) (thing : Nat) (Tk So : Row) : Prop := ∃ f', Con n Tk So f' ∧ Mg A P F f' ∧ (∀ k, k ≠ thing → (f' k).isSome = (f k).isSome) ∧ (f' thing).isSome = true ∧ ∀ D : Nat → Prop, Shut A F f D → ∀ k, D k → f' k = f k
theorem l_turn7 {A : Nat → Sl → Prop} {P : Nat → Prop} {F : Sl → Prop} {n thing op : Nat} {σ0 : am_S} {f0 : Nat → Option Sl} {q : Nat → Nat} (hn : n ≤ 20) (hT : Tree A F n f0 thing op (σ0.1 80) q) (hP : ∀ j, j < op → P (q j)) (hf0 : f0 thing = none) {e0 : Int} {Q : Option am_V → am_S → Prop} (hQ : ∀ σ, Eqx [76, 81] σ0 σ → More A P F n f0 thing (σ.1 76) (σ.1 81) → Q none σ) : ∀ (j c : Nat) (σ : am_S) (f : Nat → Option Sl), j < op → c < 1204 → σ0.1 80 c = q j → Eqx [76, 81] σ0 σ → ConH n (σ.1 76) (σ.1 81) f c → Mg A P F f → (∀ a, a ≤ j → f (q a) = f0 (q a)) → (∀ k, (f k).isSome = (f0 k).isSome) → (∀ D : Nat → Prop, Shut A F f0 D → (∀ k, D k → f k = f0 k) ∧ ∀ k, D k → f0 k ≠ some (dec c)) → ∀ (x y : Option am_V), AW am_tab mX7_turn 5 [some (vR 70), some (vI e0), some (vI thing), some (vI c), some (vI 1), x, y] [] σ Q := by
  intro j
  induction j using Nat.strongRecOn with
  | ind j ih =>
    intro c σ f hj hc hW hE hH hM hsame hdom hD x y
    have h80 : σ.1 80 = σ0.1 80 := hE.1 80 (by decide)
    have hqn := hT.2.2.2.1 j hj
    have hth0 := hT.2.2.2.1 0 hT.2.2.1
    rw [hT.2.1] at hth0
    obtain ⟨j2, hj2, hWj, hAq, hFq⟩ : ∃ j2, j2 < op ∧ σ0.1 80 c = q j2 ∧ A (q j2) (dec c) ∧ ¬ F (dec c) := by
      rcases hT.2.2.2.2.2 c hc with h | h
      · rw [hW] at h; omega
      · exact h
    have ej : j2 = j := hT.1 j2 j hj2 hj (by rw [hW] at hWj; omega)
    subst ej
    have hst := hH.step hc hqn hn hM.2
    have hnob : ∀ i, f i ≠ some (dec c) := fun i hi => by
      have := (hH.2.1 i _ hi).2.2.2
      exact this enc_dec
    have hM' := hM.put (hP j2 hj) hAq hFq hnob
    have hfj : f (q j2) = f0 (q j2) := hsame j2 (Nat.le_refl _)
    have hE' : Eqx [76, 81] σ0 (am_up (am_up σ 76 c (q j2)) 81 (q j2) c) := (hE.up (by decide)).up (by decide)
    have r76 : (am_up (am_up σ 76 c (q j2)) 81 (q j2) c).1 76 = rup (σ.1 76) c (q j2) := by rw [am_up_other (by decide), am_up_same]
    have r81 : (am_up (am_up σ 76 c (q j2)) 81 (q j2) c).1 81 = rup (σ.1 81) (q j2) c := by rw [am_up_same, am_up_other (by decide)]
    have hDn : ∀ D : Nat → Prop, Shut A F f0 D → ¬ D (q j2) := fun D hS hd => by
      obtain ⟨i, hi, hs⟩ := hS _ _ hd hAq hFq
      exact (hD D hS).2 i hi hs
    have hD' : ∀ D : Nat → Prop, Shut A F f0 D → ∀ k, D k → put f (q j2) (dec c) k = f0 k := fun D hS k hk => by
      have : k ≠ q j2 := fun e => hDn D hS (e ▸ hk)
      rw [put_ne this]
      exact (hD D hS).1 k hk
    have hso : -6 ≤ σ.1 81 (q j2) ∧ σ.1 81 (q j2) < 1204 := by
      cases he : f (q j2) with
      | none => have := hH.1 (q j2) (by omega) he; omega
      | some s => obtain ⟨_, b, d, _⟩ := hH.2.1 _ _ he; have := enc_lt b; omega
    refine AW_iload dX7_turn_5 rfl ?_
    refine AW_if_eq 62 dX7_turn_7 (by decide) (by decide) (fun h => absurd h (by decide)) (fun _ => ?_)
    refine AW_aload_n dX7_turn_10 rfl ?_
    refine AW_get dX7_turn_11 fX7_38 rfl rfl ?_
    refine AW_iload_n dX7_turn_14 rfl ?_
    refine AW_ialdN (j := c) dX7_turn_15 rfl (Nat.le_of_ble_eq_true rfl) (by omega) (by omega) ?_
    rw [h80, hWj]
    refine AW_istore (lv' := [_, _, _, _, _, _, _]) dX7_turn_16 (by decide) (Nat.le_of_ble_eq_true rfl) rfl ?_
    refine AW_aload_n dX7_turn_18 rfl ?_
    refine AW_get dX7_turn_19 fX7_41 rfl rfl ?_
    refine AW_iload dX7_turn_22 rfl ?_
    refine AW_ialdN (j := q j2) dX7_turn_24 rfl (Nat.le_of_ble_eq_true rfl) (by omega) (by omega) ?_
    refine AW_istore (lv' := [_, _, _, _, _, _, _]) dX7_turn_25 (by decide) (Nat.le_of_ble_eq_true rfl) rfl ?_
    refine AW_aload_n dX7_turn_27 rfl ?_
    refine AW_get dX7_turn_28 fX7_26 rfl rfl ?_
    refine AW_iload_n dX7_turn_31 rfl ?_
    refine AW_iload dX7_turn_32 rfl ?_
    refine AW_iastN (j := c) dX7_turn_34 rfl (Nat.le_of_ble_eq_true rfl) (by omega) (by omega) ?_
    refine AW_aload_n dX7_turn_35 rfl ?_
    refine AW_get dX7_turn_36 fX7_41 rfl rfl ?_
    refine AW_iload dX7_turn_39 rfl ?_
    refine AW_iload_n dX7_turn_41 rfl ?_
    refine AW_iastN (j := q j2) dX7_turn_42 rfl (Nat.le_of_ble_eq_true rfl) (by omega) (by omega) ?_
    refine AW_iload dX7_turn_43 rfl ?_
    refine AW_iload_n dX7_turn_45 rfl ?_
    refine AW_icmp_eq 53 dX7_turn_46 (by decide) (by omega) (by omega) (fun h46 => ?_) (fun h46 => ?_)
    · refine AW_iconst dX7_turn_53 ?_
      refine AW_istore (lv' := [_, _, _, _, _, _, _]) dX7_turn_54 (by decide) (Nat.le_of_ble_eq_true rfl) rfl ?_
      refine AW_iload dX7_turn_56 rfl ?_
      refine AW_istore_n (i := 3) (lv' := [_, _, _, _, _, _, _]) dX7_turn_58 rfl (by decide) (Nat.le_of_ble_eq_true rfl) rfl ?_
      refine AW_goto (tgt := 5) dX7_turn_59 (by decide) ?_
      refine AW_iload dX7_turn_5 rfl ?_
      refine AW_if_eq 62 dX7_turn_7 (by decide) (by decide) (fun _ => ?_) (fun h => absurd rfl h)
      refine AW_vret dX7_turn_62 rfl ?_
      have e0 : q j2 = thing := by omega
      have ef : f (q j2) = none := by rw [hfj, e0]; exact hf0
      refine hQ _ hE' ⟨put f (q j2) (dec c), by rw [r76, r81]; exact hst.2 ef, hM', fun k hk => ?_, by rw [e0, put_self]; rfl, hD'⟩
      rw [put_ne (by omega)]
      exact hdom k
    · refine AW_iconst dX7_turn_49 ?_
      refine AW_goto (tgt := 54) dX7_turn_50 (by decide) ?_
      refine AW_istore (lv' := [_, _, _, _, _, _, _]) dX7_turn_54 (by decide) (Nat.le_of_ble_eq_true rfl) rfl ?_
      refine AW_iload dX7_turn_56 rfl ?_
      refine AW_istore_n (i := 3) (lv' := [_, _, _, _, _, _, _]) dX7_turn_58 rfl (by decide) (Nat.le_of_ble_eq_true rfl) rfl ?_
      refine AW_goto (tgt := 5) dX7_turn_59 (by decide) ?_
      have e0 : q j2 ≠ thing := by omega
      have hj0 : 0 < j2 := by
        rcases Nat.eq_zero_or_pos j2 with e | e
        · exact absurd (e ▸ hT.2.1) e0
        · exact e
      obtain ⟨s, hs, i, hi, hWi⟩ := hT.2.2.2.2.1 j2 hj0 hj
      have ef : f (q j2) = some s := by rw [hfj]; exact hs
      obtain ⟨_, bs, ds, _⟩ := hH.2.1 _ _ ef
      rw [ds]
      refine ih i hi (enc s) _ (put f (q j2) (dec c)) (by omega) (enc_lt bs) hWi hE' (by rw [r76, r81]; exact hst.1 s ef) hM' (fun a ha => ?_) (fun k => ?_) (fun D hS => ⟨hD' D hS, fun k hk hks => ?_⟩) _ _
      · have : q a ≠ q j2 := fun e => by have := hT.1 a j2 (by omega) hj e; omega
        rw [put_ne this]
        exact hsame a (by omega)
      · by_cases hkq : k = q j2
        · subst hkq
          rw [put_self, hs]
          rfl
        · rw [put_ne hkq]
          exact hdom k
      · rw [dec_enc bs] at hks
        have h1 : f k = some s := by rw [(hD D hS).1 k hk]; exact hks
        have h2 := hM.2 k (q j2) s h1 ef
        exact hDn D hS (h2 ▸ hk)
theorem c_turn7 {A : Nat → Sl → Prop} {P : Nat → Prop} {F : Sl → Prop} {n thing op c : Nat} {σ : am_S} {f : Nat → Option Sl} {q : Nat → Nat} (hn : n ≤ 20) (hT : Tree A F n f thing op (σ.1 80) q) (hP : ∀ j, j < op → P (q j)) (hf0 : f thing = none) (hth : thing < 20) (hc : c < 1204) (hW : σ.1 80 c ≠ -6) (hC : Con n (σ.1 76) (σ.1 81) f) (hM : Mg A P F f) (hfree : ∀ k, f k ≠ some (dec c)) : Runs am_tab mX7_turn [vR 70, vI c, vI thing] σ (QV (fun σ' => Eqx [76, 81] σ σ' ∧ More A P F n f thing (σ'.1 76) (σ'.1 81))) := by
  refine Runs.of (by decide) rfl (by simp) (Nat.le_of_ble_eq_true rfl) ?_
  show AW am_tab mX7_turn 0 [some (vR 70), some (vI c), some (vI thing), none, none, none, none] [] σ _
  refine AW_iload_n dX7_turn_0 rfl ?_
  refine AW_istore_n (i := 3) (lv' := [_, _, _, _, _, _, _]) dX7_turn_1 rfl (by decide) (Nat.le_of_ble_eq_true rfl) rfl ?_
  refine AW_iconst dX7_turn_2 ?_
  refine AW_istore (lv' := [_, _, _, _, _, _, _]) dX7_turn_3 (by decide) (Nat.le_of_ble_eq_true rfl) rfl ?_
  have hcW : ∃ j, j < op ∧ σ.1 80 c = q j := by
    rcases hT.2.2.2.2.2 c hc with h | ⟨j, h1, h2, _⟩
    · exact absurd h hW
    · exact ⟨j, h1, h2⟩
  obtain ⟨j, hj, hWj⟩ := hcW
  refine l_turn7 hn hT hP hf0 (fun σ' h1 h2 => ⟨rfl, h1, h2⟩) j c σ f hj hc hWj Eqx.rf (hC.hole hfree hc) hM (fun _ _ => rfl) (fun _ => rfl) (fun D hS => ⟨fun _ _ => rfl, fun k hk hks => hfree k hks⟩) _ _
