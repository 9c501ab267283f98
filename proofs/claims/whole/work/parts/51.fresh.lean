-- ===== what a PLAN sees of the row X =====
/-- the places of the row that a PLAN sees -/
def Pv (X X' : Row) : Prop := ∀ j, j < 381 ∨ (6401 ≤ j ∧ j ≤ 6420) ∨ j = 6422 ∨ j = 6423 → X' j = X j
theorem canB_cg {X X' : Row} (hT : WT X) (h : Pv X X') {a k t : Nat} (ha : a < 4) (hk : (k : Int) < X 6423) (ht : t ≤ 300) : canB X' a k t = canB X a k t := by
  have hm := hT.1
  have hk2 := hT.2 k hk
  have hg := gn_cg (X := X) (X' := X') (fun t ht => h t (by omega))
  have e1 := h (6413 + a) (by omega)
  have e2 := h (6409 + a) (by omega)
  have e3 := h (6417 + a) (by omega)
  have e4 := h (6401 + a) (by omega)
  have e5 := h (6405 + a) (by omega)
  have e6 := h (301 + k) (by omega)
  have e7 := h (321 + k) (by omega)
  have e8 := h (341 + k) (by omega)
  unfold canB plc
  rw [e1, e2, e3, e4, e5, e6, e7, e8, hg t ht, hg _ (by omega)]
theorem avX_cg {X X' : Row} {w : Int} {k t : Nat} (h : ∀ a, a < 4 → canB X' a k t = canB X a k t) : ∀ n, n ≤ 4 → avX X' w k t n = avX X w k t n := by
  intro n
  induction n with
  | zero => intro _; rfl
  | succ n ih =>
    intro hn
    simp only [avX]
    rw [ih (by omega), h n (by omega)]
theorem gA_cg {X X' : Row} (hT : WT X) (h : Pv X X') {w : Int} {k : Nat} (hk : (k : Int) < X 6423) (s : Sl) : gA X w k s ↔ gA X' w k s := by
  unfold gA
  constructor
  · intro ⟨h1, h2⟩
    exact ⟨h1, (avX_cg (fun a ha => canB_cg hT h ha hk h1.1) 4 (Nat.le_refl _)).trans h2⟩
  · intro ⟨h1, h2⟩
    exact ⟨h1, (avX_cg (fun a ha => canB_cg hT h ha hk h1.1) 4 (Nat.le_refl _)).symm.trans h2⟩
theorem IsMax_cg {A A' : Nat → Sl → Prop} {P : Nat → Prop} {F : Sl → Prop} {n m : Nat} (h : ∀ k s, k < n → (A k s ↔ A' k s)) (hP : ∀ k, P k → k < n) : IsMax A P F n m ↔ IsMax A' P F n m := ⟨fun q => q.congr (fun k s hk => h k s (hP k hk)) (fun _ => Iff.rfl) (fun _ _ _ _ => Iff.rfl), fun q => q.congr (fun k s hk => (h k s (hP k hk)).symm) (fun _ => Iff.rfl) (fun _ _ _ _ => Iff.rfl)⟩
theorem Works_cg {A A' : Nat → Sl → Prop} {F : Sl → Prop} {n k : Nat} {s : Sl} (h : ∀ k s, k < n → (A k s ↔ A' k s)) : Works A n k F s ↔ Works A' n k F s := exists_congr (fun _ => and_congr (IsMax_cg h (fun _ hj => hj.2)) (IsMax_cg h (fun _ hj => hj.2)))
theorem PlanSpec_cg {A A' : Nat → Sl → Prop} {n : Nat} {f : Nat → Option Sl} (h : ∀ k s, k < n → (A k s ↔ A' k s)) (hp : PlanSpec A n f) : PlanSpec A' n f := by
  intro k hk
  obtain ⟨p1, p2⟩ := hp k hk
  refine ⟨fun s hs => ?_, fun hn s hA hF hW => p2 hn s ((h k s hk).mpr hA) hF ((Works_cg h).mpr hW)⟩
  obtain ⟨a1, a2, a3, a4⟩ := p1 s hs
  exact ⟨(h k s hk).mp a1, a2, (Works_cg h).mp a3, fun s' b1 b2 b3 b4 => a4 s' ((h k s' hk).mpr b1) b2 b3 ((Works_cg h).mpr b4)⟩
theorem needB_cg {X X' : Row} {n k : Nat} (h : ∀ k s, k < n → (gA X (-6) k s ↔ gA X' (-6) k s)) : needB X' n k = needB X n k := by
  apply Bool.eq_iff_iff.mpr
  rw [needB_t, needB_t]
  unfold needX numX
  exact exists_congr (fun _ => exists_congr (fun _ => and_congr (IsMax_cg h (fun _ hj => hj.2)).symm (and_congr (IsMax_cg h (fun _ hj => hj.1)).symm Iff.rfl)))
theorem trS_cg {X X' : Row} {f : Nat → Option Sl} {n : Nat} (hk : ∀ k, k < n → kdX X' k = kdX X k) (hs : shX X' = shX X) : ∀ s, trS X' f n s = trS X f n s := by
  intro s
  induction s with
  | zero => rfl
  | succ s ih =>
    simp only [trS]
    rw [ih]
    unfold trI
    cases e : whoAt f s n with
    | none => rfl
    | some j =>
      have := (whoAt_some n e).1
      dsimp only
      unfold layK
      rw [hk j this, hs]
theorem whoAt_cg {f g : Nat → Option Sl} {s : Nat} : ∀ n, (∀ j, j < n → f j = g j) → whoAt f s n = whoAt g s n := by
  intro n
  induction n with
  | zero => intro _; rfl
  | succ n ih => intro h; simp only [whoAt]; rw [h n (by omega), ih (fun j hj => h j (by omega))]
theorem trS_pl {X : Row} {f g : Nat → Option Sl} {n : Nat} (h : ∀ j, j < n → f j = g j) : ∀ s, trS X f n s = trS X g n s := by
  intro s
  induction s with
  | zero => rfl
  | succ s ih =>
    simp only [trS, trI]
    rw [ih, whoAt_cg n h]
theorem pTick_cg {f g : Nat → Option Sl} {k : Nat} (h : f k = g k) : pTick f k = pTick g k := by
  unfold pTick
  rw [h]
theorem pArm_cg {f g : Nat → Option Sl} {k : Nat} (h : f k = g k) : pArm f k = pArm g k := by
  unfold pArm
  rw [h]
theorem byN_cg {f g : Nat → Option Sl} {arm : Int} : ∀ n, (∀ j, j < n → f j = g j) → byN f arm n = byN g arm n := by
  intro n
  induction n with
  | zero => intro _; rfl
  | succ n ih => intro h; simp only [byN]; rw [ih (fun j hj => h j (by omega)), pArm_cg (h n (by omega))]
theorem takesN_cg {f g : Nat → Option Sl} {arm tick : Int} : ∀ n, (∀ j, j < n → f j = g j) → takesN f arm tick n = takesN g arm tick n := by
  intro n
  induction n with
  | zero => intro _; rfl
  | succ n ih => intro h; simp only [takesN]; rw [ih (fun j hj => h j (by omega)), pArm_cg (h n (by omega)), pTick_cg (h n (by omega))]
theorem lastN_cg {f g : Nat → Option Sl} : ∀ n, (∀ j, j < n → f j = g j) → lastN f n = lastN g n := by
  intro n
  induction n with
  | zero => intro _; rfl
  | succ n ih => intro h; simp only [lastN]; rw [ih (fun j hj => h j (by omega)), pTick_cg (h n (by omega))]
theorem miss_cg {f g : Nat → Option Sl} {n : Nat} (h : ∀ j, j < n → f j = g j) : bset (missB f) n = bset (missB g) n := bset_congr n (fun k hk => by unfold missB; rw [h k hk])
theorem plan_uniq {X : Row} {n : Nat} {f g : Nat → Option Sl} (hf : PlanSpec (gA X (-6)) n f) (hg : PlanSpec (gA X (-6)) n g) : ∀ k, k < n → f k = g k := PlanSpec.uniq (fun k s s' _ h1 h2 e => by
  have := gA_uni (t := s'.1) (a := s'.2) h2.2 h1 e
  exact this) hf hg
-- ===== THE PLAN as the class keeps it =====
def FR (σ : am_S) (X : Row) : Prop := ∃ (n : Nat) (f : Nat → Option Sl) (p : Nat → Bool) (m : Nat), X 6423 = (n : Nat) ∧ ConC n (σ.1 57) (σ.1 56) f ∧ (∀ i j s, f i = some s → f j = some s → i = j) ∧ PlanSpec (gA X (-6)) n f ∧ σ.1 53 0 = (n : Nat) ∧ σ.1 53 1 = (m : Nat) ∧ numX X (-6) n m ∧ σ.1 53 10 = (bset p 20 : Nat) ∧ (∀ k, k < n → p k = !needB X n k) ∧ TRr (σ.1 69) (σ.1 68) (trS X f n 1204)
theorem FR.eq {σ σ' : am_S} {X : Row} (h : ∀ a, a ∈ [53, 56, 57, 68, 69] → σ'.1 a = σ.1 a) (hF : FR σ X) : FR σ' X := by
  unfold FR
  rw [h 53 (by simp), h 56 (by simp), h 57 (by simp), h 68 (by simp), h 69 (by simp)]
  exact hF
theorem FR.cg {σ : am_S} {X X' : Row} (hT : WT X) (h : Pv X X') (hF : FR σ X) : FR σ X' := by
  obtain ⟨n, f, p, m, f1, f2, f3, f4, f5, f6, f7, f8, f9, f10⟩ := hF
  have hg : ∀ k s, k < n → (gA X (-6) k s ↔ gA X' (-6) k s) := fun k s hk => gA_cg hT h (by omega) s
  have hm := hT.1
  refine ⟨n, f, p, m, by rw [h 6423 (by omega)]; exact f1, f2, f3, PlanSpec_cg hg f4, f5, f6, (IsMax_cg hg (fun _ hj => hj.2)).mp f7, f8, fun k hk => by rw [needB_cg hg]; exact f9 k hk, ?_⟩
  rw [trS_cg (fun k hk => by unfold kdX; rw [h _ (by omega)]) (by unfold shX; rw [h _ (by omega)])]
  exact f10
/-- the class's object is that of the row X, the kept flags K and the images Y -/
def CC (σ : am_S) (X K : Row) (Y : Nat → Row) : Prop := WX X ∧ CS σ X ∧ (∀ k, k < 2 → 0 ≤ K k ∧ K k ≤ 1) ∧ σ.1 0 2 = K 0 + 2 * K 1 ∧ (∀ k, k < 2 → K k = 1 → WX (Y k) ∧ CS (shS σ (17 + 17 * k)) (Y k)) ∧ (σ.1 0 6 = 1 ∨ (σ.1 0 6 = 0 ∧ FR σ X))
def CP (σ σ' : am_S) (X K : Row) (Y : Nat → Row) : Prop := CC σ' X K Y ∧ ∀ a, 70 ≤ a → σ'.1 a = σ.1 a
theorem shS_eq {σ σ' : am_S} {X : Row} {k : Nat} (hk : k < 2) (h : ∀ a, 19 ≤ a → a < 53 → σ'.1 a = σ.1 a) (h2 : ∀ a, a ≠ 12 → σ'.2 a = σ.2 a) (hC : CS (shS σ (17 + 17 * k)) X) : CS (shS σ' (17 + 17 * k)) X := CS.eq (σ := shS σ (17 + 17 * k)) (fun a h1 h3 => h (a + (17 + 17 * k)) (by omega) (by omega)) (h2 (12 + (17 + 17 * k)) (by omega)) hC
/-- a call that tells: the state changes, THE PLAN is stale -/
theorem CC.tell {σ τ : am_S} {X X' K : Row} {Y : Nat → Row} (hC : CC σ X K Y) (h : ∀ a, (a < 2 ∨ 19 ≤ a) → τ.1 a = σ.1 a) (h2 : ∀ a, a ≠ 12 → τ.2 a = σ.2 a) (hS : CS τ X') (hW : WX X') : CP σ (am_up τ 0 6 1) X' K Y := by
  obtain ⟨c1, c2, c3, c4, c5, c6⟩ := hC
  have e : ∀ a, a ≠ 0 → (am_up τ 0 6 1).1 a = τ.1 a := fun a ha => am_up_other ha
  refine ⟨⟨hW, CS.eq (fun a h1 _ => e a (by omega)) rfl hS, c3, ?_, fun k hk hK => ⟨(c5 k hk hK).1, ?_⟩, Or.inl ?_⟩, fun a ha => ?_⟩
  · rw [am_up_same, rup_ne (by decide), h 0 (by omega)]; exact c4
  · exact shS_eq hk (fun a h1 h3 => (e a (by omega)).trans (h a (by omega))) h2 (c5 k hk hK).2
  · rw [am_up_same, rup_at]
  · rw [e a (by omega), h a (by omega)]
/-- a call that tells nothing that a PLAN sees -/
theorem CC.quiet {σ τ : am_S} {X X' K : Row} {Y : Nat → Row} (hC : CC σ X K Y) (h : ∀ a, (a < 2 ∨ 19 ≤ a) → τ.1 a = σ.1 a) (h2 : ∀ a, a ≠ 12 → τ.2 a = σ.2 a) (hS : CS τ X') (hW : WX X') (hv : Pv X X') : CP σ τ X' K Y := by
  obtain ⟨c1, c2, c3, c4, c5, c6⟩ := hC
  refine ⟨⟨hW, hS, c3, ?_, fun k hk hK => ⟨(c5 k hk hK).1, shS_eq hk (fun a h1 h3 => h a (by omega)) h2 (c5 k hk hK).2⟩, ?_⟩, fun a ha => h a (by omega)⟩
  · rw [h 0 (by omega)]; exact c4
  · rw [h 0 (by omega)]
    rcases c6 with c | ⟨c, d⟩
    · exact Or.inl c
    · refine Or.inr ⟨c, (d.cg c1.2.1 hv).eq (fun a ha => h a ?_)⟩
      simp only [List.mem_cons, List.not_mem_nil, or_false] at ha
      omega
theorem CC.rf {σ : am_S} {X K : Row} {Y : Nat → Row} (hC : CC σ X K Y) : CP σ σ X K Y := ⟨hC, fun _ _ => rfl⟩
/-- only what lies behind the states changes -/
theorem CC.plan {σ τ : am_S} {X K : Row} {Y : Nat → Row} (hC : CC σ X K Y) (h : ∀ a, a < 53 → a ≠ 0 → τ.1 a = σ.1 a) (h7 : ∀ a, 70 ≤ a → τ.1 a = σ.1 a) (h0 : τ.1 0 2 = σ.1 0 2) (h2 : τ.2 = σ.2) (hF : τ.1 0 6 = 1 ∨ (τ.1 0 6 = 0 ∧ FR τ X)) : CP σ τ X K Y := by
  obtain ⟨c1, c2, c3, c4, c5, c6⟩ := hC
  refine ⟨⟨c1, CS.eq (fun a h1 h3 => h a (by omega) (by omega)) (by rw [h2]) c2, c3, by rw [h0]; exact c4, fun k hk hK => ⟨(c5 k hk hK).1, shS_eq hk (fun a h1 h3 => h a (by omega) (by omega)) (fun a _ => by rw [h2]) (c5 k hk hK).2⟩, hF⟩, h7⟩
theorem c_freshPlan {σ : am_S} {X K : Row} {Y : Nat → Row} (hC : CC σ X K Y) : Runs am_tab mX6_freshPlan [vR 0] σ (QR (fun k σ' => k = 53 ∧ Eqx [0, 53, 54, 55, 56, 57, 58, 59, 68, 69] σ σ' ∧ CC σ' X K Y ∧ FR σ' X)) := by
  refine Runs.of (by decide) rfl (by simp) (Nat.le_of_ble_eq_true rfl) ?_
  show AW am_tab mX6_freshPlan 0 [some (vR 0)] [] σ _
  have hW := hC.1
  have hm := hW.2.1.1
  obtain ⟨n, hmany⟩ : ∃ n : Nat, X 6423 = n := ⟨(X 6423).toNat, by omega⟩
  have hst : σ.1 0 6 = 0 ∨ σ.1 0 6 = 1 := by
    rcases hC.2.2.2.2.2 with h | h
    · exact Or.inr h
    · exact Or.inl h.1
  refine AW_aload_n dX6_freshPlan_0 rfl ?_
  refine AW_get dX6_freshPlan_1 fX6_41 rfl rfl ?_
  refine AW_if_eq 46 dX6_freshPlan_4 (by decide) (by omega) (fun h4 => ?_) (fun h4 => ?_)
  · refine AW_aload_n dX6_freshPlan_46 rfl ?_
    refine AW_get dX6_freshPlan_47 fX6_27 rfl rfl ?_
    refine AW_aret dX6_freshPlan_50 rfl ?_
    have h0 : σ.1 0 6 = 0 := by omega
    have hFR : FR σ X := by
      rcases hC.2.2.2.2.2 with h | h
      · omega
      · exact h.2
    exact ⟨_, rfl, rfl, Eqx.rf, hC, hFR⟩
  · refine AW_aload_n dX6_freshPlan_7 rfl ?_
    refine AW_get dX6_freshPlan_8 fX6_27 rfl rfl ?_
    refine AW_aload_n dX6_freshPlan_11 rfl ?_
    refine AW_get dX6_freshPlan_12 fX6_12 rfl rfl ?_
    refine AW_iconst dX6_freshPlan_15 ?_
    refine AW_cVV2 dX6_freshPlan_16 kX6_178 (am_fit_b rfl) rfl rfl (Nat.le_of_ble_eq_true rfl) (c_takeMost (n := n) PT_53 hW.1 hW.2.1 hW.2.2.1 ⟨hC.2.1.2.2.1, hC.2.1.2.1, hC.2.1.2.2.2.1⟩ hmany (by omega)) (fun σ1 hq1 => ?_)
    obtain ⟨f, p, hE1, hP0, hF, h1t, h1s⟩ := hq1
    rw [gA_neg (by decide)] at hF
    have hP : PlanC X (-6) n 53 σ1 f := by
      unfold PlanC at hP0 ⊢
      rw [gA_neg (by decide)] at hP0
      exact hP0
    have hmax := fail_max hP.2.1 hF
    refine AW_aload_n dX6_freshPlan_19 rfl ?_
    refine AW_get dX6_freshPlan_20 fX6_27 rfl rfl ?_
    refine AW_cVV0 dX6_freshPlan_23 kX6_220 (am_fit_b rfl) rfl rfl (Nat.le_of_ble_eq_true rfl) (c_settle (A := gA X (-6)) (n := n) (f := f) PT_53 (by omega) gA_ok hP.2.2.1 hP.2.2.2 hP.1 hP.2.1 hmax) (fun σ2 hq2 => ?_)
    obtain ⟨f', hPS, hspec⟩ := hq2
    refine AW_aload_n dX6_freshPlan_26 rfl ?_
    refine AW_get dX6_freshPlan_27 fX6_37 rfl rfl ?_
    refine AW_aload_n dX6_freshPlan_30 rfl ?_
    refine AW_get dX6_freshPlan_31 fX6_27 rfl rfl ?_
    refine AW_aload_n dX6_freshPlan_34 rfl ?_
    refine AW_get dX6_freshPlan_35 fX6_12 rfl rfl ?_
    have e2 : ∀ a, a < 53 → σ2.1 a = σ.1 a := fun a ha => by
      rw [hPS.1.1 a (by simp only [List.mem_cons, List.not_mem_nil, or_false]; omega), hE1.1 a (by simp only [List.mem_cons, List.not_mem_nil, or_false]; omega)]
    have hTO2 : TO σ2 X := by
      unfold TO
      rw [e2 7 (by decide), e2 8 (by decide), e2 9 (by decide), e2 10 (by decide), e2 11 (by decide)]
      exact hC.2.1.2.2.1
    have hsh2 : σ2.1 2 4 = X 6422 := by rw [e2 2 (by decide)]; exact hC.2.1.2.2.2.2.2.2
    refine AW_cVV2 dX6_freshPlan_38 kX6_223 (am_fit_b rfl) rfl rfl (Nat.le_of_ble_eq_true rfl) (c_lay (X := X) (n := n) (f := f') PT_53 (by decide) (by omega) hPS.2.2.1 (hPS.2.1.1.trans hP.2.2.2) hPS.2.2.2.2 hW.2.1 hW.2.2.2 hmany hTO2 hsh2) (fun σ3 hq3 => ?_)
    obtain ⟨hE3, hTR⟩ := hq3
    refine AW_aload_n dX6_freshPlan_41 rfl ?_
    refine AW_iconst dX6_freshPlan_42 ?_
    refine AW_put dX6_freshPlan_43 pX6_41 rfl rfl rfl rfl ?_
    have hfin : CP σ (am_up σ3 0 6 0) X K Y ∧ FR (am_up σ3 0 6 0) X := by
      have hE := ((hE1.mono (S' := [0, 53, 54, 55, 56, 57, 58, 59, 68, 69]) (by simp)).tr (hPS.1.mono (by simp))).tr (hE3.mono (by simp))
      have hFR : FR (am_up σ3 0 6 0) X := by
        have e3 : ∀ a, a ∉ [68, 69] → a ≠ 0 → (am_up σ3 0 6 0).1 a = σ2.1 a := fun a ha h0 => by rw [am_up_other h0, hE3.1 a ha]
        have e68 : (am_up σ3 0 6 0).1 68 = σ3.1 68 := am_up_other (by decide)
        have e69 : (am_up σ3 0 6 0).1 69 = σ3.1 69 := am_up_other (by decide)
        refine ⟨n, f', p, sz f n, hmany, ?_, hPS.2.2.2.2, hspec, ?_, ?_, ?_, ?_, fun k hk => ?_, ?_⟩
        · rw [e3 57 (by simp) (by decide), e3 56 (by simp) (by decide)]; exact hPS.2.2.1
        · rw [e3 53 (by simp) (by decide)]; exact hPS.2.1.1.trans hP.2.2.2
        · rw [e3 53 (by simp) (by decide)]; exact hPS.2.1.2.1.trans h1t
        · exact hmax.congr (fun _ _ _ => Iff.rfl) (fun j => ⟨fun h => ⟨Nat.zero_le _, h⟩, fun h => h.2⟩) (fun _ _ _ _ => Iff.rfl)
        · rw [e3 53 (by simp) (by decide)]; exact hPS.2.1.2.2.trans h1s
        · have := need_iff hP.2.1 hF hk
          cases hb : needB X n k with
          | true => rw [this.mp hb]; rfl
          | false =>
            cases hp : p k with
            | true => rfl
            | false => rw [this.mpr hp] at hb; cases hb
        · rw [e68, e69]; exact hTR
      refine ⟨hC.plan (fun a h1 h0 => ?_) (fun a ha => ?_) ?_ ?_ (Or.inr ⟨?_, hFR⟩), hFR⟩
      · rw [am_up_other h0]
        exact hE.1 a (by simp only [List.mem_cons, List.not_mem_nil, or_false]; omega)
      · rw [am_up_other (by omega)]
        exact hE.1 a (by simp only [List.mem_cons, List.not_mem_nil, or_false]; omega)
      · rw [am_up_same, rup_ne (by decide)]
        have e1 := hE1.1 0 (by simp)
        have e2 := hPS.1.1 0 (by simp)
        have e3 := hE3.1 0 (by simp)
        rw [e3, e2, e1]
      · exact hE.2
      · rw [am_up_same, rup_at]
    refine AW_aload_n dX6_freshPlan_46 rfl ?_
    refine AW_get dX6_freshPlan_47 fX6_27 rfl rfl ?_
    refine AW_aret dX6_freshPlan_50 rfl ?_
    have hE := ((hE1.mono (S' := [0, 53, 54, 55, 56, 57, 58, 59, 68, 69]) (by simp)).tr (hPS.1.mono (by simp))).tr (hE3.mono (by simp))
    exact ⟨_, rfl, rfl, hE.up (by simp), hfin.1.1, hfin.2⟩
