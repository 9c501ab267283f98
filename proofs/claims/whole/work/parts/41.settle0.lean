theorem sz_none : ∀ n, sz (fun _ => none) n = 0 := by
  intro n
  induction n with
  | zero => rfl
  | succ n ih => simp [sz, ih]
theorem mg_none {A : Nat → Sl → Prop} {P : Nat → Prop} {F : Sl → Prop} : Mg A P F (fun _ => none) := ⟨fun _ _ h => (nomatch h), fun _ _ _ h => (nomatch h)⟩
theorem avX_neg {X : Row} {w : Int} (hw : w < 0) {k t : Nat} : ∀ n, avX X w k t n = avX X (-6) k t n := by
  intro n
  induction n with
  | zero => rfl
  | succ n ih =>
    simp only [avX]
    rw [ih]
    have e : ((n : Int) ≠ w ∧ canB X n k t = true) ↔ ((n : Int) ≠ -6 ∧ canB X n k t = true) := ⟨fun h => ⟨by omega, h.2⟩, fun h => ⟨by omega, h.2⟩⟩
    simp only [e]
theorem gA_neg {X : Row} {w : Int} (hw : w < 0) : gA X w = gA X (-6) := by
  funext k s
  unfold gA
  rw [avX_neg hw]
theorem c_takeMost {X : Row} {n q : Nat} {w : Int} {σ0 : am_S} (hq : PT q) (hS : WS X) (hT : WT X) (hA : WA X) (hSO : SOK σ0 X) (hmany : X 6423 = (n : Nat)) (hw : -10 ≤ w ∧ w ≤ 10) : Runs am_tab mX2_takeMost [vR q, vR 2, vI w] σ0 (QV (fun σ' => ∃ (f : Nat → Option Sl) (p : Nat → Bool), Eqx [q, q + 1, q + 2, q + 3, q + 4, q + 5, q + 6] σ0 σ' ∧ PlanC X w n q σ' f ∧ FailC (gA X w) n 0 f p ∧ σ'.1 q 1 = (sz f n : Nat) ∧ σ'.1 q 10 = (bset p 20 : Nat))) := by
  refine Runs.of (by decide) rfl (by simp) (Nat.le_of_ble_eq_true rfl) ?_
  show AW am_tab mX2_takeMost 0 [some (vR q), some (vR 2), some (vI w), none] [] σ0 _
  refine AW_aload_n dX2_takeMost_0 rfl ?_
  refine AW_aload_n dX2_takeMost_1 rfl ?_
  refine AW_get dX2_takeMost_2 fX2_46 rfl rfl ?_
  refine AW_get dX2_takeMost_5 fX2_52 rfl rfl ?_
  rw [hSO.1.1, hmany]
  refine AW_put dX2_takeMost_8 pX2_9 hq.1 rfl rfl rfl ?_
  refine AW_aload_n dX2_takeMost_11 rfl ?_
  refine AW_iconst dX2_takeMost_12 ?_
  refine AW_put dX2_takeMost_13 pX2_15 hq.1 rfl rfl rfl ?_
  refine AW_aload_n dX2_takeMost_16 rfl ?_
  refine AW_get dX2_takeMost_17 fX2_25 hq.1 rfl ?_
  refine AW_iconst dX2_takeMost_20 ?_
  refine AW_cSV2 dX2_takeMost_21 kX2_55 (am_fit_b rfl) (Nat.le_of_ble_eq_true rfl) (c_fill hq.2.2.2.1 (by decide)) (fun σ' hq2 => ?_)
  replace hq2 := hq2.symm
  subst hq2
  refine AW_aload_n dX2_takeMost_24 rfl ?_
  refine AW_get dX2_takeMost_25 fX2_28 hq.1 rfl ?_
  refine AW_iconst dX2_takeMost_28 ?_
  refine AW_cSV2 dX2_takeMost_29 kX2_55 (am_fit_b rfl) (Nat.le_of_ble_eq_true rfl) (c_fill hq.2.2.2.2.1 (by decide)) (fun σ' hq2 => ?_)
  replace hq2 := hq2.symm
  subst hq2
  refine AW_iconst dX2_takeMost_32 ?_
  refine AW_istore_n (i := 3) (lv' := [_, _, _, _]) dX2_takeMost_33 rfl (by decide) (Nat.le_of_ble_eq_true rfl) rfl ?_
  have hE1 : Eqx [q, q + 1, q + 2, q + 3, q + 4, q + 5, q + 6] σ0 (am_row (am_row (am_up (am_up σ0 q 0 n) q 1 0) (q + 3) 20 (fun _ => -1)) (q + 4) 1204 (fun _ => -1)) := (((Eqx.rf.up (by simp)).up (by simp)).row (by simp)).row (by simp)
  refine l_takeMost1 hq hS hT hA hSO hmany hw (fun σ hE hem hls => ?_) 0 (Nat.zero_le _) _ hE1 ⟨⟨fun k hk _ => ?_, fun k s h => (nomatch h), fun k s h => (nomatch h), fun x hx => Or.inl ?_⟩, ?_, ?_⟩ (fun j hj => absurd hj (Nat.not_lt_zero _))
  · refine AW_iconst dX2_takeMost_55 ?_
    refine AW_istore_n (i := 3) (lv' := [_, _, _, _]) dX2_takeMost_56 rfl (by decide) (Nat.le_of_ble_eq_true rfl) rfl ?_
    exact l_takeMost2 hq hS hT hA hSO hmany hw (fun f p σ2 h1 h2 h3 h4 h5 => ⟨rfl, f, p, h1, h2, h3, h4, h5⟩) 0 (Nat.zero_le _) (fun _ => none) σ hE ⟨hem.1, mg_none, hls, hem.2.1⟩ hem.2.2 (sz_none n).symm
  · rw [am_row_other (by omega), am_row_at hk]
  · rw [am_row_at hx]
  · rw [am_row_other (by omega), am_row_other (by omega), am_up_same, am_up_same]
    rfl
  · rw [am_row_other (by omega), am_row_other (by omega), am_up_same]
    rfl
/-! ===== of the PLANS that take most, the one told ===== -/
def upf (f : Nat → Option Sl) (k : Nat) : Nat → Option Sl := fun j => if j < k then none else f j
theorem upf_lt {f : Nat → Option Sl} {k j : Nat} (h : j < k) : upf f k j = none := if_pos h
theorem upf_ge {f : Nat → Option Sl} {k j : Nat} (h : k ≤ j) : upf f k j = f j := if_neg (by omega)
theorem upf_some {f : Nat → Option Sl} {k j : Nat} {s : Sl} (h : upf f k j = some s) : k ≤ j ∧ f j = some s := by
  by_cases e : j < k
  · rw [upf_lt e] at h; cases h
  · rw [upf_ge (by omega)] at h; exact ⟨by omega, h⟩
theorem Mg.upf {A : Nat → Sl → Prop} {n k : Nat} {f : Nat → Option Sl} (hM : Mg A (fun j => j < n) f0 f) : Mg A (Pge n k) (Fof f k) (upf f k) := by
  refine ⟨fun j s h => ?_, fun i j s hi hj => hM.2 i j s (upf_some hi).2 (upf_some hj).2⟩
  obtain ⟨h1, h2⟩ := upf_some h
  obtain ⟨a, b, _⟩ := hM.1 j s h2
  refine ⟨⟨h1, a⟩, b, fun ⟨i, hi, e⟩ => ?_⟩
  have := hM.2 i j s e h2
  omega
theorem max_ge {A : Nat → Sl → Prop} {P : Nat → Prop} {F : Sl → Prop} {n m : Nat} {g : Nat → Option Sl} (hmax : IsMax A P F n m) (hg : Mg A P F g) (h : m ≤ sz g n) : IsMax A P F n (sz g n) := by
  have h2 := hmax.2 g hg
  have e : sz g n = m := by omega
  rw [e]
  exact hmax
theorem cnt_mono {p q : Nat → Bool} {n : Nat} (h : ∀ k, k < n → p k = true → q k = true) : cnt p n ≤ cnt q n := by
  induction n with
  | zero => exact Nat.le_refl 0
  | succ n ih =>
    have h1 := ih (fun k hk => h k (by omega))
    have h2 := h n (by omega)
    simp only [cnt]
    by_cases e : p n = true
    · rw [if_pos e, if_pos (h2 e)]; omega
    · rw [if_neg e]; omega
theorem Fof_some {f : Nat → Option Sl} {k : Nat} {s : Sl} (h : f k = some s) : Fof f (k + 1) = Fx (Fof f k) s := by
  funext x
  apply propext
  constructor
  · rintro ⟨j, hj, e⟩
    by_cases z : j = k
    · rw [z, h] at e; exact Or.inr (Option.some.inj e).symm
    · exact Or.inl ⟨j, by omega, e⟩
  · rintro (⟨j, hj, e⟩ | e)
    · exact ⟨j, by omega, e⟩
    · exact ⟨k, by omega, by rw [h, e]⟩
theorem Fof_no {f : Nat → Option Sl} {k : Nat} (h : f k = none) : Fof f (k + 1) = Fof f k := by
  funext x
  apply propext
  constructor
  · rintro ⟨j, hj, e⟩
    by_cases z : j = k
    · rw [z, h] at e; cases e
    · exact ⟨j, by omega, e⟩
  · rintro ⟨j, hj, e⟩
    exact ⟨j, by omega, e⟩
theorem upf_but {f : Nat → Option Sl} {k : Nat} : but (upf f k) k = upf f (k + 1) := by
  funext j
  by_cases z : j = k
  · rw [z, but_self, upf_lt (by omega)]
  · rw [but_ne z]
    by_cases e : j < k
    · rw [upf_lt e, upf_lt (by omega)]
    · rw [upf_ge (by omega), upf_ge (by omega)]
theorem upf_none {f : Nat → Option Sl} {k : Nat} (h : f k = none) : upf f k = upf f (k + 1) := by
  rw [← upf_but]
  funext j
  by_cases z : j = k
  · rw [z, but_self, upf_ge (Nat.le_refl _), h]
  · rw [but_ne z]
/-- THE PLAN's word on THING k -/
def PSC (A : Nat → Sl → Prop) (n : Nat) (pl : Nat → Option Sl) (k : Nat) : Prop := (∀ s, pl k = some s → A k s ∧ ¬ Fof pl k s ∧ Works A n k (Fof pl k) s ∧ ∀ s', A k s' → ¬ Fof pl k s' → s'.1 < s.1 → ¬ Works A n k (Fof pl k) s') ∧ (pl k = none → ∀ s, A k s → ¬ Fof pl k s → ¬ Works A n k (Fof pl k) s)
theorem PSC.congr {A : Nat → Sl → Prop} {n k : Nat} {f g : Nat → Option Sl} (h : PSC A n f k) (he : ∀ j, j ≤ k → g j = f j) : PSC A n g k := by
  unfold PSC at *
  rw [he k (Nat.le_refl _), Fof_congr (p := g) (q := f) (fun j hj => he j (by omega))]
  exact h
def MaxK (A : Nat → Sl → Prop) (n k : Nat) (f : Nat → Option Sl) : Prop := IsMax A (Pge n k) (Fof f k) n (sz (upf f k) n)
theorem settle_yes {A : Nat → Sl → Prop} {n k : Nat} {f : Nat → Option Sl} {s : Sl} (hk : k < n) (hM : Mg A (fun j => j < n) f0 f) (hmax : MaxK A n k f) (hs : f k = some s) (hno : ∀ s', A k s' → ¬ Fof f k s' → s'.1 < s.1 → ¬ Works A n k (Fof f k) s') : PSC A n f k ∧ MaxK A n (k + 1) f := by
  have hw := works_of hk hM.upf hmax (by rw [upf_ge (Nat.le_refl _)]; exact hs)
  refine ⟨⟨fun x hx => ?_, fun h => (by rw [hs] at h; cases h)⟩, ?_⟩
  · rw [hs] at hx
    cases hx
    refine ⟨(hM.1 k s hs).2.1, fun ⟨j, hj, e⟩ => ?_, hw.1, hno⟩
    have := hM.2 j k s e hs
    omega
  · unfold MaxK
    rw [Fof_some hs, ← upf_but]
    exact hw.2
/-- a THING with 20 slots finds one that no other has -/
theorem list_free {A : Nat → Sl → Prop} {n k : Nat} {f : Nat → Option Sl} {SL SC : Row} (hn : n ≤ 20) (hAok : ∀ k s, A k s → okS s) (hM : Mg A (fun j => j < n) f0 f) (hk : k < n) (hls : LsOK A k SL SC) (hc : SC k = 20) : ∃ i s, i < 20 ∧ A k s ∧ SL (20 * k + i) = enc4 s ∧ ∀ j, j ≠ k → f j ≠ some s := by
  obtain ⟨c, hc1, hc2, hc3, hc4, hc5⟩ := hls
  have hc20 : c = 20 := by omega
  subst hc20
  refine Classical.byContradiction (fun hcon => ?_)
  have hch : ∀ i, ∃ h : Nat, i < 20 → ∃ s', okS s' ∧ SL (20 * k + i) = enc4 s' ∧ h ≠ k ∧ f h = some s' := by
    intro i
    by_cases hi : i < 20
    · obtain ⟨s', hs', he'⟩ := hc3 i hi
      refine Classical.byContradiction (fun h2 => hcon ⟨i, s', hi, hs', he', fun j hj e => h2 ⟨j, fun _ => ⟨s', hAok k s' hs', he', hj, e⟩⟩⟩)
    · exact ⟨0, fun h => absurd h hi⟩
  have hlen := q_len (q := qadd (fun i => Classical.choose (hch i)) 20 k) (op := 21) (n := n) (fun i j hi hj e => by
    by_cases c1 : i = 20
    · by_cases c2 : j = 20
      · omega
      · rw [qadd_at c1, qadd_ne c2] at e
        obtain ⟨s', _, _, h3, _⟩ := Classical.choose_spec (hch j) (by omega)
        exact absurd e.symm h3
    · by_cases c2 : j = 20
      · rw [qadd_ne c1, qadd_at c2] at e
        obtain ⟨s', _, _, h3, _⟩ := Classical.choose_spec (hch i) (by omega)
        exact absurd e h3
      · rw [qadd_ne c1, qadd_ne c2] at e
        obtain ⟨si, oi, ei, _, fi⟩ := Classical.choose_spec (hch i) (by omega)
        obtain ⟨sj, oj, ej, _, fj⟩ := Classical.choose_spec (hch j) (by omega)
        rw [e, fj] at fi
        cases fi
        rcases Nat.lt_trichotomy i j with z | z | z
        · have := hc4 i j si si z (by omega) oj oj ei ej; omega
        · exact z
        · have := hc4 j i si si z (by omega) oj oj ej ei; omega) (fun j hj => by
    by_cases c1 : j = 20
    · rw [qadd_at c1]; exact hk
    · rw [qadd_ne c1]
      obtain ⟨s', _, _, _, h3⟩ := Classical.choose_spec (hch j) (by omega)
      exact (hM.1 _ _ h3).1)
  omega
theorem Mg.but {A : Nat → Sl → Prop} {P : Nat → Prop} {F : Sl → Prop} {f : Nat → Option Sl} (h : Mg A P F f) {k : Nat} : Mg A P F (but f k) := by
  refine ⟨fun x y hx => ?_, fun a b y ha hb => ?_⟩
  · by_cases e : x = k
    · rw [e, but_self] at hx; cases hx
    · rw [but_ne e] at hx; exact h.1 x y hx
  · by_cases e : a = k
    · rw [e, but_self] at ha; cases ha
    · by_cases e2 : b = k
      · rw [e2, but_self] at hb; cases hb
      · rw [but_ne e] at ha
        rw [but_ne e2] at hb
        exact h.2 a b y ha hb
theorem but_some {f : Nat → Option Sl} {k j : Nat} {s : Sl} (h : but f k j = some s) : j ≠ k ∧ f j = some s := by
  by_cases e : j = k
  · rw [e, but_self] at h; cases h
  · rw [but_ne e] at h; exact ⟨e, h⟩
/-- THING k moved to a slot that no other has: as many -/
theorem move_max {A : Nat → Sl → Prop} {n k : Nat} {f : Nat → Option Sl} {s : Sl} (hk : k < n) (hM : Mg A (fun j => j < n) f0 f) (hmax : MaxK A n k f) (hA : A k s) (hfree : ∀ j, j ≠ k → f j ≠ some s) : Mg A (fun j => j < n) f0 (put (but f k) k s) ∧ (∀ j, j < k → put (but f k) k s j = f j) ∧ MaxK A n k (put (but f k) k s) := by
  have hM2 : Mg A (fun j => j < n) f0 (put (but f k) k s) := hM.but.put hk hA (fun h => h) (fun j h => by
    obtain ⟨h1, h2⟩ := but_some h
    exact hfree j h1 h2)
  have hlow : ∀ j, j < k → put (but f k) k s j = f j := fun j hj => by rw [put_ne (by omega), but_ne (by omega)]
  refine ⟨hM2, hlow, ?_⟩
  unfold MaxK
  have e := Fof_congr (p := put (but f k) k s) (q := f) hlow
  have hU := hM2.upf (k := k)
  rw [e] at hU ⊢
  refine max_ge hmax hU ?_
  rw [sz_cnt, sz_cnt]
  refine cnt_mono (fun j hj h => ?_)
  by_cases z : j < k
  · rw [upf_lt z] at h; cases h
  · rw [upf_ge (by omega)] at h ⊢
    by_cases z2 : j = k
    · rw [z2, put_self]; rfl
    · rw [put_ne z2, but_ne z2]; exact h
theorem settle_no {A : Nat → Sl → Prop} {n k : Nat} {f : Nat → Option Sl} {SL SC : Row} (hn : n ≤ 20) (hAok : ∀ k s, A k s → okS s) (hk : k < n) (hM : Mg A (fun j => j < n) f0 f) (hmax : MaxK A n k f) (hls : LsOK A k SL SC) (hno : ∀ (i : Nat) s, (i : Int) < SC k → A k s → SL (20 * k + i) = enc4 s → Fof f k s ∨ ¬ Works A n k (Fof f k) s) : f k = none ∧ PSC A n f k ∧ MaxK A n (k + 1) f := by
  have hall : ∀ s, A k s → ¬ Fof f k s → ¬ Works A n k (Fof f k) s := by
    intro s hs hF
    have hls2 := hls
    obtain ⟨c, hc1, hc2, hc3, hc4, hc5⟩ := hls
    rcases hc5 s hs with ⟨i, hi, he⟩ | ⟨hc, _⟩
    · exact (hno i s (by omega) hs he).resolve_left hF
    · exfalso
      obtain ⟨i, s2, hi, hs2, he2, hfr⟩ := list_free hn hAok hM hk hls2 (by omega)
      obtain ⟨m1, m2, m3⟩ := move_max hk hM hmax hs2 hfr
      have e := Fof_congr (p := put (but f k) k s2) (q := f) m2
      have hw := works_of hk m1.upf m3 (s := s2) (by rw [upf_ge (Nat.le_refl _), put_self])
      rw [e] at hw
      rcases hno i s2 (by omega) hs2 he2 with h | h
      · obtain ⟨j, hj, h⟩ := h
        exact hfr j (by omega) h
      · exact h hw.1
  have hnone : f k = none := by
    cases h : f k with
    | none => rfl
    | some s =>
      exfalso
      have hw := works_of hk hM.upf hmax (s := s) (by rw [upf_ge (Nat.le_refl _)]; exact h)
      refine hall s (hM.1 k s h).2.1 (fun ⟨j, hj, e⟩ => ?_) hw.1
      have := hM.2 j k s e h
      omega
  refine ⟨hnone, ⟨fun s h => (by rw [hnone] at h; cases h), fun _ => hall⟩, ?_⟩
  unfold MaxK
  rw [Fof_no hnone, ← upf_none hnone]
  exact max_none hM.upf hmax (by rw [upf_ge (Nat.le_refl _)]; exact hnone)
/-- one behind k gives its slot to k, which had none -/
theorem swap_max {A : Nat → Sl → Prop} {n k h : Nat} {f : Nat → Option Sl} {s : Sl} (hk : k < n) (hh : k < h) (hM : Mg A (fun j => j < n) f0 f) (hmax : MaxK A n k f) (hA : A k s) (hf : f h = some s) (hn : f k = none) : MaxK A n k (put (but (but f k) h) k s) := by
  have hM2 : Mg A (fun j => j < n) f0 (put (but (but f k) h) k s) := hM.but.but.put hk hA (fun h => h) (fun j hj => by
    obtain ⟨h1, h2⟩ := but_some hj
    obtain ⟨h3, h4⟩ := but_some h2
    exact h1 (hM.2 j h s h4 hf))
  have hlow : ∀ j, j < k → put (but (but f k) h) k s j = f j := fun j hj => by rw [put_ne (by omega), but_ne (by omega), but_ne (by omega)]
  unfold MaxK
  have e := Fof_congr (p := put (but (but f k) h) k s) (q := f) hlow
  have hU := hM2.upf (k := k)
  rw [e] at hU ⊢
  refine max_ge hmax hU ?_
  have hhn := (hM.1 h s hf).1
  have e1 := sz_but (f := upf f k) hhn (by rw [upf_ge (by omega)]; exact hf)
  have e2 := sz_put (f := but (upf f k) h) (s := s) hk (by rw [but_ne (by omega), upf_ge (Nat.le_refl _)]; exact hn)
  rw [e1, ← e2]
  refine Nat.le_of_eq (sz_congr (fun j hj => ?_))
  by_cases z2 : j = k
  · rw [z2, put_self, upf_ge (Nat.le_refl _), put_self]
  · rw [put_ne z2]
    by_cases z : j < k
    · rw [upf_lt z, but_ne (by omega), upf_lt z]
    · rw [upf_ge (by omega), put_ne z2]
      by_cases z3 : j = h
      · rw [z3, but_self, but_self]
      · rw [but_ne z3, but_ne z3, but_ne z2, upf_ge (by omega)]
theorem sz2 {n k h : Nat} {f : Nat → Option Sl} {s b : Sl} (hk : k < n) (hhn : h < n) (hh : k < h) (hf : f h = some s) (hb : f k = some b) : sz (upf f k) n = sz (upf (put (but (but f k) h) k s) (k + 1)) n + 2 := by
  have e1 := sz_but (f := upf f k) hk (by rw [upf_ge (Nat.le_refl _)]; exact hb)
  have e2 := sz_but (f := but (upf f k) k) hhn (by rw [but_ne (by omega), upf_ge (by omega)]; exact hf)
  have e3 : sz (but (but (upf f k) k) h) n = sz (upf (put (but (but f k) h) k s) (k + 1)) n := sz_congr (fun j hj => by
    by_cases z : j < k + 1
    · rw [upf_lt z]
      by_cases z3 : j = h
      · rw [z3, but_self]
      · rw [but_ne z3]
        by_cases z2 : j = k
        · rw [z2, but_self]
        · rw [but_ne z2, upf_lt (by omega)]
    · rw [upf_ge (by omega), put_ne (by omega)]
      by_cases z3 : j = h
      · rw [z3, but_self, but_self]
      · rw [but_ne z3, but_ne z3, but_ne (by omega), but_ne (by omega), upf_ge (by omega)])
  omega
/-- a search behind k that found nothing: with k there one less is taken -/
theorem fail_works {A : Nat → Sl → Prop} {n k h : Nat} {f : Nat → Option Sl} {s b : Sl} {p : Nat → Bool} (hk : k < n) (hhn : h < n) (hh : k < h) (hf : f h = some s) (hb : f k = some b) (hmax : MaxK A n k f) (hM : Mg A (fun j => j < n) f0 (put (but (but f k) h) k s)) (hF : FailC A n (k + 1) (put (but (but f k) h) k s) p) : ¬ Works A n k (Fof f k) s := by
  have hcert := cert_max (A := A) (P := Pge n (k + 1)) (F := Fof (put (but (but f k) h) k s) (k + 1)) (n := n) (f := upf (put (but (but f k) h) k s) (k + 1)) (D := fun j => p j = true) (fun j hj => hj.2) hM.upf (fun j hj hn => hF.1 j hj.1 hj.2 (by rw [upf_ge hj.1] at hn; exact hn)) (fun j x hj hA hnF => by
    obtain ⟨i, h1, h2⟩ := hF.2.2.1 j x hj hA
    rcases h2 with h2 | h2
    · exact absurd ⟨i, h2, h1⟩ hnF
    · exact ⟨i, h2, by rw [upf_ge (hF.2.1 i h2).1]; exact h1⟩)
  have e0 : Fof (put (but (but f k) h) k s) k = Fof f k := Fof_congr (fun j hj => by rw [put_ne (by omega), but_ne (by omega), but_ne (by omega)])
  rw [Fof_some (f := put (but (but f k) h) k s) (s := s) put_self, e0] at hcert
  rintro ⟨m, h1, h2⟩
  have u1 := h1.uniq hcert
  have u2 := h2.uniq hmax
  have := sz2 hk hhn hh hf hb
  omega
theorem more_max {A : Nat → Sl → Prop} {n k h : Nat} {f f2 : Nat → Option Sl} {s b : Sl} (hk : k < n) (hhn : h < n) (hh : k < h) (hf : f h = some s) (hb : f k = some b) (hmax : MaxK A n k f) (hM : Mg A (fun j => j < n) f0 f2) (hlow : ∀ j, j < k + 1 → f2 j = put (but (but f k) h) k s j) {u : Nat} (hu1 : k + 1 ≤ u) (hu2 : u < n) (hu3 : put (but (but f k) h) k s u = none) (hu4 : (f2 u).isSome = true) (hdom : ∀ j, j ≠ u → (f2 j).isSome = (put (but (but f k) h) k s j).isSome) : (∀ j, j < k → f2 j = f j) ∧ f2 k = some s ∧ MaxK A n k f2 := by
  have hl2 : ∀ j, j < k → f2 j = f j := fun j hj => by rw [hlow j (by omega), put_ne (by omega), but_ne (by omega), but_ne (by omega)]
  have hfk : f2 k = some s := by rw [hlow k (by omega), put_self]
  refine ⟨hl2, hfk, ?_⟩
  unfold MaxK
  have e := Fof_congr (p := f2) (q := f) hl2
  have hU := hM.upf (k := k)
  rw [e] at hU ⊢
  refine max_ge hmax hU ?_
  have e1 := sz2 hk hhn hh hf hb
  have e2 := sz_but (f := upf f2 k) hk (by rw [upf_ge (Nat.le_refl _)]; exact hfk)
  rw [upf_but] at e2
  have e3 : sz (upf f2 (k + 1)) n = sz (upf (put (but (but f k) h) k s) (k + 1)) n + 1 := by
    rw [sz_cnt, sz_cnt]
    refine cnt_add hu2 (by rw [upf_ge hu1, hu3]; rfl) (by rw [upf_ge hu1]; exact hu4) (fun j _ hj => ?_)
    by_cases z : j < k + 1
    · rw [upf_lt z, upf_lt z]
    · rw [upf_ge (by omega), upf_ge (by omega)]
      exact (hdom j hj).symm
  omega
