-- ===== the class and the reference side by side =====
theorem Runs.mono {T : List am_C} {M : am_M} {av : List am_V} {σ : am_S} {P P' : Int → am_S → Prop} (h : Runs T M av σ (QI P)) (hp : ∀ z σ', P z σ' → P' z σ') : Runs T M av σ (QI P') := by
  intro l E p e ha hc hk s m args below hf happ hP hK
  obtain ⟨n, o, h1, h2, h3, ⟨⟨r, σ', h4, ⟨z, h5, h6⟩, h7⟩, h8⟩, h9⟩ := h l E p e ha hc hk s m args below hf happ hP hK
  exact ⟨n, o, h1, h2, h3, ⟨⟨r, σ', h4, ⟨z, h5, hp z σ' h6⟩, h7⟩, h8⟩, h9⟩
theorem WX_cg {X X' : Row} (h : ∀ j, j < 6424 → X' j = X j) (hW : WX X) : WX X' := ⟨WS_cg (fun t ht => h t (by omega)) hW.1, WT_cg (fun j h1 h2 => h j (by omega)) (h _ (by omega)) hW.2.1, WA_cg (fun j h1 h2 => h j (by omega)) hW.2.2.1, WN_cg (h _ (by omega)) (h _ (by omega)) hW.2.2.2⟩
theorem CS_cg {σ : am_S} {X X' : Row} (h : ∀ j, j < 6424 → X' j = X j) (hT : WT X) (hC : CS σ X) : CS σ X' := ⟨BO_cg (fun t ht => h t (by omega)) hC.1, GO_cg (fun t ht => h t (by omega)) hC.2.1, TO_cg (fun j h1 h2 => h j (by omega)) (h _ (by omega)) hT hC.2.2.1, AO_cg (fun j h1 h2 => h j (by omega)) hC.2.2.2.1, SN_cg (fun j h1 h2 => h j (by omega)) (h _ (by omega)) hT hC.2.2.2.2.1, by rw [h 6421 (by omega)]; exact hC.2.2.2.2.2.1, by rw [h 6422 (by omega)]; exact hC.2.2.2.2.2.2⟩
theorem CC_cg {σ : am_S} {X X' K K' : Row} {Y Y' : Nat → Row} (hX : ∀ j, j < 6424 → X' j = X j) (hK : ∀ k, k < 2 → K' k = K k) (hY : ∀ k, k < 2 → ∀ j, j < 6424 → Y' k j = Y k j) (hC : CC σ X K Y) : CC σ X' K' Y' := by
  obtain ⟨c1, c2, c3, c4, c5, c6⟩ := hC
  refine ⟨WX_cg hX c1, CS_cg hX c1.2.1 c2, fun k hk => by rw [hK k hk]; exact c3 k hk, by rw [hK 0 (by omega), hK 1 (by omega)]; exact c4, fun k hk hk1 => ?_, ?_⟩
  · have h5 := c5 k hk (by rw [← hK k hk]; exact hk1)
    exact ⟨WX_cg (hY k hk) h5.1, CS_cg (hY k hk) h5.1.2.1 h5.2⟩
  · rcases c6 with c | ⟨c, d⟩
    · exact Or.inl c
    · exact Or.inr ⟨c, d.cg c1.2.1 (fun j hj => hX j (by omega))⟩
theorem CC_eq {σ σ' : am_S} {X K : Row} {Y : Nat → Row} (h1 : ∀ a, a < 70 → σ'.1 a = σ.1 a) (h2 : σ'.2 = σ.2) (hC : CC σ X K Y) : CC σ' X K Y := by
  obtain ⟨c1, c2, c3, c4, c5, c6⟩ := hC
  refine ⟨c1, CS.eq (fun a _ h => h1 a (by omega)) (by rw [h2]) c2, c3, by rw [h1 0 (by omega)]; exact c4, fun k hk hk1 => ⟨(c5 k hk hk1).1, shS_eq hk (fun a _ h => h1 a (by omega)) (fun a _ => by rw [h2]) (c5 k hk hk1).2⟩, ?_⟩
  rw [h1 0 (by omega)]
  rcases c6 with c | ⟨c, d⟩
  · exact Or.inl c
  · refine Or.inr ⟨c, d.eq (fun a ha => h1 a ?_)⟩
    simp only [List.mem_cons, List.not_mem_nil, or_false] at ha
    omega
/-- the images as the reference keeps them -/
def imR (σ : am_S) : Nat → Row := fun k j => σ.1 72 (6424 * k + j)
abbrev Inv (σ : am_S) : Prop := CC σ (σ.1 71) (σ.1 73) (imR σ)
theorem Inv_of {σ1 σ2 : am_S} {X' K' : Row} {Y' : Nat → Row} (hC : CC σ1 X' K' Y') (h1 : ∀ a, a < 70 → σ2.1 a = σ1.1 a) (h2 : σ2.2 = σ1.2) (hX : ∀ j, j < 6424 → σ2.1 71 j = X' j) (hK : ∀ k, k < 2 → σ2.1 73 k = K' k) (hY : ∀ k, k < 2 → ∀ j, j < 6424 → σ2.1 72 (6424 * k + j) = Y' k j) : Inv σ2 := CC_cg hX hK hY (CC_eq h1 h2 hC)
theorem Inv_ms {σ σ1 σ2 : am_S} {X' : Row} (hC : CP σ σ1 X' (σ.1 73) (imR σ)) (hM : MS σ1 σ2 X') : Inv σ2 := by
  have e72 : σ2.1 72 = σ.1 72 := (hM.2.1 72 (by omega)).trans (hC.2 72 (by omega))
  have e73 : σ2.1 73 = σ.1 73 := (hM.2.1 73 (by omega)).trans (hC.2 73 (by omega))
  exact Inv_of hC.1 (fun a ha => hM.2.1 a (Or.inl ha)) hM.2.2 (fun j _ => by rw [hM.1]) (fun k _ => by rw [e73]) (fun k _ j _ => by rw [e72]; rfl)
theorem Inv_ex {σ σ1 σ2 : am_S} {S : List Nat} (hS : ∀ a ∈ S, a = 70 ∨ 74 ≤ a) (hC : CP σ σ1 (σ.1 71) (σ.1 73) (imR σ)) (hE : Eqx S σ1 σ2) : Inv σ2 := by
  have hn : ∀ a, a ≠ 70 → a < 74 → σ2.1 a = σ1.1 a := fun a h1 h2 => hE.1 a (fun h => by rcases hS a h with h | h <;> omega)
  have e71 : σ2.1 71 = σ.1 71 := (hn 71 (by omega) (by omega)).trans (hC.2 71 (by omega))
  exact Inv_ms (X' := σ.1 71) hC ⟨e71, fun a ha => hn a (by omega) (by omega), hE.2⟩
theorem Inv_n {σ : am_S} (hI : Inv σ) : ∃ n : Nat, σ.1 71 6423 = n := ⟨(σ.1 71 6423).toNat, by have := hI.1.2.1.1; omega⟩
theorem ite1E {c1 E B b e : Prop} [Decidable c1] (h : if c1 then E ∧ B else b ∧ e) (he : e → E) : (if c1 then B else b) ∧ E := by
  by_cases q : c1
  · rw [if_pos q] at h ⊢
    exact ⟨h.2, h.1⟩
  · rw [if_neg q] at h ⊢
    exact ⟨h.1, he h.2⟩
theorem ite2E {c1 c2 E B b b' e : Prop} [Decidable c1] [Decidable c2] (h : if c1 then (if c2 then E ∧ B else b ∧ e) else b' ∧ e) (he : e → E) : (if c1 then (if c2 then B else b) else b') ∧ E := by
  by_cases q : c1
  · rw [if_pos q] at h ⊢
    exact ite1E h he
  · rw [if_neg q] at h ⊢
    exact ⟨h.1, he h.2⟩
theorem cp_ne {σ : am_S} {a0 a sp dp n k : Nat} (h : k ≠ a) : (am_cp σ a0 a sp dp n).1 k = σ.1 k := by
  funext j
  show (if k = a ∧ _ then _ else _) = _
  rw [if_neg (fun q => h q.1)]
def Two (m6 m7 : am_M) (as : List am_V) (σ : am_S) : Prop := Runs am_tab m6 (vR 0 :: as) σ (QI (fun z σ1 => Runs am_tab m7 (vR 70 :: as) σ1 (QI (fun z' σ2 => z' = z ∧ Inv σ2))))
theorem pr_speed {σ : am_S} (hI : Inv σ) {tick n : Int} (htick : -2147483648 ≤ tick ∧ tick < 2147483648) (hn : -2147483648 ≤ n ∧ n < 2147483648) : Two mX6_speed mX7_speed [vI tick, vI n] σ := by
  refine (c_speed hI htick hn).mono (fun z σ1 h => ?_)
  have e : σ1.1 71 = σ.1 71 := h.2.2 71 (by decide)
  have e3 : σ1.1 73 = σ.1 73 := h.2.2 73 (by decide)
  refine (c_speed7 (σ := σ1) hn htick (by rw [e]; exact hI.1.1)).mono (fun z' σ2 h' => ?_)
  rw [e] at h'
  exact ⟨h'.1.trans h.1.symm, Inv_ms h.2 h'.2⟩
theorem pr_level {σ : am_S} (hI : Inv σ) {tick : Int} (htick : -2147483648 ≤ tick ∧ tick < 2147483648) : Two mX6_level mX7_level [vI tick] σ := by
  refine (c_level hI htick).mono (fun z σ1 h => ?_)
  have e : σ1.1 71 = σ.1 71 := h.2.2 71 (by decide)
  have e3 : σ1.1 73 = σ.1 73 := h.2.2 73 (by decide)
  refine (c_level7 (σ := σ1) htick (by rw [e]; exact hI.1.1)).mono (fun z' σ2 h' => ?_)
  rw [e] at h'
  exact ⟨h'.1.trans h.1.symm, Inv_ms h.2 h'.2⟩
theorem pr_gone {σ : am_S} (hI : Inv σ) {tick : Int} (htick : -2147483648 ≤ tick ∧ tick < 2147483648) : Two mX6_gone mX7_gone [vI tick] σ := by
  refine (c_gone hI htick).mono (fun z σ1 h => ?_)
  have e : σ1.1 71 = σ.1 71 := h.2.2 71 (by decide)
  have e3 : σ1.1 73 = σ.1 73 := h.2.2 73 (by decide)
  refine (c_gone7 (σ := σ1) htick (by rw [e]; exact hI.1.1)).mono (fun z' σ2 h' => ?_)
  rw [e] at h'
  exact ⟨h'.1.trans h.1.symm, Inv_ms h.2 h'.2⟩
theorem pr_see {σ : am_S} (hI : Inv σ) {tick lane place kind : Int} (htick : -2147483648 ≤ tick ∧ tick < 2147483648) (hlane : -2147483648 ≤ lane ∧ lane < 2147483648) (hplace : -2147483648 ≤ place ∧ place < 2147483648) (hkind : -2147483648 ≤ kind ∧ kind < 2147483648) : Two mX6_see mX7_see [vI tick, vI lane, vI place, vI kind] σ := by
  refine (c_see hI htick hlane hplace hkind).mono (fun z σ1 h => ?_)
  have e : σ1.1 71 = σ.1 71 := h.2.2 71 (by decide)
  have e3 : σ1.1 73 = σ.1 73 := h.2.2 73 (by decide)
  refine (c_see7 (σ := σ1) (by rw [e]; exact hI.1.1) (by rw [e]; exact hI.1.2.1) (by rw [e]; exact hI.1.2.2.2) htick hlane hplace hkind).mono (fun z' σ2 h' => ?_)
  rw [e] at h'
  exact ⟨h'.1.trans h.1.symm, Inv_ms h.2 h'.2⟩
theorem pr_drop {σ : am_S} (hI : Inv σ) {thing : Int} (hthing : -2147483648 ≤ thing ∧ thing < 2147483648) : Two mX6_drop mX7_drop [vI thing] σ := by
  refine (c_drop hI hthing).mono (fun z σ1 h => ?_)
  have e : σ1.1 71 = σ.1 71 := h.2.2 71 (by decide)
  have e3 : σ1.1 73 = σ.1 73 := h.2.2 73 (by decide)
  refine (c_drop7 (σ := σ1) (by rw [e]; exact hI.1.2.1) hthing).mono (fun z' σ2 h' => ?_)
  rw [e] at h'
  exact ⟨h'.1.trans h.1.symm, Inv_ms h.2 h'.2⟩
theorem pr_place {σ : am_S} (hI : Inv σ) {thing tick : Int} (hthing : -2147483648 ≤ thing ∧ thing < 2147483648) (htick : -2147483648 ≤ tick ∧ tick < 2147483648) : Two mX6_place mX7_place [vI thing, vI tick] σ := by
  refine (c_place hI hthing htick).mono (fun z σ1 h => ?_)
  have e : σ1.1 71 = σ.1 71 := h.2.2 71 (by decide)
  have e3 : σ1.1 73 = σ.1 73 := h.2.2 73 (by decide)
  refine (c_place7 (σ := σ1) (by rw [e]; exact hI.1.1) (by rw [e]; exact hI.1.2.1) hthing htick).mono (fun z' σ2 h' => ?_)
  rw [e] at h'
  exact ⟨h'.1.trans h.1.symm, Inv_ms h.2 h'.2⟩
theorem pr_reach {σ : am_S} (hI : Inv σ) {arm fr ti : Int} (harm : -2147483648 ≤ arm ∧ arm < 2147483648) (hfr : -2147483648 ≤ fr ∧ fr < 2147483648) (hti : -2147483648 ≤ ti ∧ ti < 2147483648) : Two mX6_reach mX7_reach [vI arm, vI fr, vI ti] σ := by
  refine (c_reach hI harm hfr hti).mono (fun z σ1 h => ?_)
  have e : σ1.1 71 = σ.1 71 := h.2.2 71 (by decide)
  have e3 : σ1.1 73 = σ.1 73 := h.2.2 73 (by decide)
  refine (c_reach7 (σ := σ1) (by rw [e]; exact hI.1.2.2.1) harm hfr hti).mono (fun z' σ2 h' => ?_)
  rw [e] at h'
  exact ⟨h'.1.trans h.1.symm, Inv_ms h.2 h'.2⟩
theorem pr_beat {σ : am_S} (hI : Inv σ) {arm n off : Int} (harm : -2147483648 ≤ arm ∧ arm < 2147483648) (hn : -2147483648 ≤ n ∧ n < 2147483648) (hoff : -2147483648 ≤ off ∧ off < 2147483648) : Two mX6_beat mX7_beat [vI arm, vI n, vI off] σ := by
  refine (c_beat hI harm hn hoff).mono (fun z σ1 h => ?_)
  have e : σ1.1 71 = σ.1 71 := h.2.2 71 (by decide)
  have e3 : σ1.1 73 = σ.1 73 := h.2.2 73 (by decide)
  refine (c_beat7 (σ := σ1) harm hn hoff).mono (fun z' σ2 h' => ?_)
  rw [e] at h'
  exact ⟨h'.1.trans h.1.symm, Inv_ms h.2 h'.2⟩
theorem pr_lanes {σ : am_S} (hI : Inv σ) {arm set : Int} (harm : -2147483648 ≤ arm ∧ arm < 2147483648) (hset : -2147483648 ≤ set ∧ set < 2147483648) : Two mX6_lanes mX7_lanes [vI arm, vI set] σ := by
  refine (c_lanes hI harm hset).mono (fun z σ1 h => ?_)
  have e : σ1.1 71 = σ.1 71 := h.2.2 71 (by decide)
  have e3 : σ1.1 73 = σ.1 73 := h.2.2 73 (by decide)
  refine (c_lanes7 (σ := σ1) harm hset).mono (fun z' σ2 h' => ?_)
  rw [e] at h'
  exact ⟨h'.1.trans h.1.symm, Inv_ms h.2 h'.2⟩
theorem pr_can {σ : am_S} (hI : Inv σ) {arm thing tick : Int} (harm : -2147483648 ≤ arm ∧ arm < 2147483648) (hthing : -2147483648 ≤ thing ∧ thing < 2147483648) (htick : -2147483648 ≤ tick ∧ tick < 2147483648) : Two mX6_can mX7_can [vI arm, vI thing, vI tick] σ := by
  refine (c_can hI harm hthing htick).mono (fun z σ1 h => ?_)
  have e : σ1.1 71 = σ.1 71 := h.2.2 71 (by decide)
  have e3 : σ1.1 73 = σ.1 73 := h.2.2 73 (by decide)
  refine (c_can7 (σ := σ1) (by rw [e]; exact hI.1.1) (by rw [e]; exact hI.1.2.1) (by rw [e]; exact hI.1.2.2.1) harm hthing htick).mono (fun z' σ2 h' => ?_)
  rw [e] at h'
  exact ⟨h'.1.trans h.1.symm, Inv_ms h.2 h'.2⟩
theorem pr_set {σ : am_S} (hI : Inv σ) {what n : Int} (hwhat : -2147483648 ≤ what ∧ what < 2147483648) (hn : -2147483648 ≤ n ∧ n < 2147483648) : Two mX6_set mX7_set [vI what, vI n] σ := by
  refine (c_set hI hwhat hn).mono (fun z σ1 h => ?_)
  have e : σ1.1 71 = σ.1 71 := h.2.2 71 (by decide)
  have e3 : σ1.1 73 = σ.1 73 := h.2.2 73 (by decide)
  refine (c_set7 (σ := σ1) hwhat hn).mono (fun z' σ2 h' => ?_)
  rw [e] at h'
  exact ⟨h'.1.trans h.1.symm, Inv_ms h.2 h'.2⟩
theorem pr_count {σ : am_S} (hI : Inv σ) {what : Int} (hwhat : -2147483648 ≤ what ∧ what < 2147483648) : Two mX6_count mX7_count [vI what] σ := by
  refine (c_count hI hwhat).mono (fun z σ1 h => ?_)
  have e : σ1.1 71 = σ.1 71 := h.2.2 71 (by decide)
  have e3 : σ1.1 73 = σ.1 73 := h.2.2 73 (by decide)
  refine (c_count7 (σ := σ1) (by rw [e]; exact hI.1.1) (by rw [e]; exact hI.1.2.1) (fun k hk => by rw [e3]; exact hI.2.2.1 k hk) hwhat).mono (fun z' σ2 h' => ?_)
  rw [e, e3] at h'
  exact ⟨h'.1.trans h.1.symm, Inv_ms h.2 h'.2⟩
theorem pr_thing {σ : am_S} (hI : Inv σ) {thing what : Int} (hthing : -2147483648 ≤ thing ∧ thing < 2147483648) (hwhat : -2147483648 ≤ what ∧ what < 2147483648) : Two mX6_thing mX7_thing [vI thing, vI what] σ := by
  obtain ⟨n, hmany⟩ := Inv_n hI
  refine (c_thing hI hmany hthing hwhat).mono (fun z σ1 h => ?_)
  have e : σ1.1 71 = σ.1 71 := h.2.2 71 (by decide)
  refine (c_thing7 (σ := σ1) (by rw [e]; exact hI.1.1) (by rw [e]; exact hI.1.2.1) (by rw [e]; exact hI.1.2.2.1) (n := n) (by rw [e]; exact hmany) (by rw [e]; exact hI.1.2.2.2) hthing hwhat).mono (fun z' σ2 h' => ?_)
  have h9 := ite2E h' (fun q => by rw [q]; exact Eqx.rf)
  rw [e] at h9
  have hu : thingR (σ.1 71) n thing what z' := h9.1
  exact ⟨thingR_u hmany hu h.1, Inv_ex (by intro a ha; simp only [List.mem_cons, List.not_mem_nil, or_false] at ha; omega) h.2 h9.2⟩
theorem pr_arm {σ : am_S} (hI : Inv σ) {arm what : Int} (harm : -2147483648 ≤ arm ∧ arm < 2147483648) (hwhat : -2147483648 ≤ what ∧ what < 2147483648) : Two mX6_arm mX7_arm [vI arm, vI what] σ := by
  obtain ⟨n, hmany⟩ := Inv_n hI
  refine (c_arm hI hmany harm hwhat).mono (fun z σ1 h => ?_)
  have e : σ1.1 71 = σ.1 71 := h.2.2 71 (by decide)
  refine (c_arm7 (σ := σ1) (by rw [e]; exact hI.1.1) (by rw [e]; exact hI.1.2.1) (by rw [e]; exact hI.1.2.2.1) (n := n) (by rw [e]; exact hmany) harm hwhat).mono (fun z' σ2 h' => ?_)
  have h9 := ite2E h' (fun q => by rw [q]; exact Eqx.rf)
  rw [e] at h9
  have hu : armQ (σ.1 71) n arm what z' := h9.1
  exact ⟨armQ_u hu h.1, Inv_ex (by intro a ha; simp only [List.mem_cons, List.not_mem_nil, or_false] at ha; omega) h.2 h9.2⟩
theorem pr_plan {σ : am_S} (hI : Inv σ) {what : Int} (hwhat : -2147483648 ≤ what ∧ what < 2147483648) : Two mX6_plan mX7_plan [vI what] σ := by
  obtain ⟨n, hmany⟩ := Inv_n hI
  refine (c_plan hI hmany hwhat).mono (fun z σ1 h => ?_)
  have e : σ1.1 71 = σ.1 71 := h.2.2 71 (by decide)
  refine (c_plan7 (σ := σ1) (by rw [e]; exact hI.1.1) (by rw [e]; exact hI.1.2.1) (by rw [e]; exact hI.1.2.2.1) (n := n) (by rw [e]; exact hmany) hwhat).mono (fun z' σ2 h' => ?_)
  have h9 := ite1E h' (fun q => by rw [q]; exact Eqx.rf)
  rw [e] at h9
  have hu : planR (σ.1 71) n what z' := h9.1
  exact ⟨planR_u hu h.1, Inv_ex (by intro a ha; simp only [List.mem_cons, List.not_mem_nil, or_false] at ha; omega) h.2 h9.2⟩
theorem pr_tray {σ : am_S} (hI : Inv σ) {kind part : Int} (hkind : -2147483648 ≤ kind ∧ kind < 2147483648) (hpart : -2147483648 ≤ part ∧ part < 2147483648) : Two mX6_tray mX7_tray [vI kind, vI part] σ := by
  obtain ⟨n, hmany⟩ := Inv_n hI
  refine (c_tray hI hmany hkind hpart).mono (fun z σ1 h => ?_)
  have e : σ1.1 71 = σ.1 71 := h.2.2 71 (by decide)
  refine (c_tray7 (σ := σ1) (by rw [e]; exact hI.1.1) (by rw [e]; exact hI.1.2.1) (by rw [e]; exact hI.1.2.2.1) (n := n) (by rw [e]; exact hmany) (by rw [e]; exact hI.1.2.2.2) hkind hpart).mono (fun z' σ2 h' => ?_)
  have h9 := ite1E h' (fun q => by rw [q]; exact Eqx.rf)
  rw [e] at h9
  have hu : trayR (σ.1 71) n kind part z' := h9.1
  exact ⟨trayR_u hu h.1, Inv_ex (by intro a ha; simp only [List.mem_cons, List.not_mem_nil, or_false] at ha; omega) h.2 h9.2⟩
theorem pr_takes {σ : am_S} (hI : Inv σ) {arm tick : Int} (harm : -2147483648 ≤ arm ∧ arm < 2147483648) (htick : -2147483648 ≤ tick ∧ tick < 2147483648) : Two mX6_takes mX7_takes [vI arm, vI tick] σ := by
  obtain ⟨n, hmany⟩ := Inv_n hI
  refine (c_takes hI hmany harm htick).mono (fun z σ1 h => ?_)
  have e : σ1.1 71 = σ.1 71 := h.2.2 71 (by decide)
  refine (c_takes7 (σ := σ1) (by rw [e]; exact hI.1.1) (by rw [e]; exact hI.1.2.1) (by rw [e]; exact hI.1.2.2.1) (n := n) (by rw [e]; exact hmany) harm htick).mono (fun z' σ2 h' => ?_)
  have h9 := ite2E h' (fun q => by rw [q]; exact Eqx.rf)
  rw [e] at h9
  have hu : takesR (σ.1 71) n arm tick z' := by
    unfold takesR
    by_cases c1 : 0 ≤ arm ∧ arm ≤ 3
    · by_cases c2 : 0 ≤ tick ∧ tick ≤ 300
      · have h8 := h9.1
        rw [if_pos c1, if_pos c2] at h8 ⊢
        obtain ⟨pl, a1, a2⟩ := h8
        exact ⟨pl, a1.1, a2⟩
      · have h8 := h9.1
        rw [if_pos c1, if_neg c2] at h8 ⊢
        exact h8
    · have h8 := h9.1
      rw [if_neg c1] at h8 ⊢
      exact h8
  exact ⟨takesR_u hu h.1, Inv_ex (by intro a ha; simp only [List.mem_cons, List.not_mem_nil, or_false] at ha; omega) h.2 h9.2⟩
theorem pr_image {σ : am_S} (hI : Inv σ) {n : Int} (hn : -2147483648 ≤ n ∧ n < 2147483648) : Two mX6_image mX7_image [vI n] σ := by
  refine (c_image hI hn).mono (fun z σ1 h => ?_)
  refine (c_image7 (σ := σ1) hn).mono (fun z' σ2 h' => ?_)
  by_cases c : 0 ≤ n ∧ n ≤ 1
  · rw [if_pos c] at h h'
    obtain ⟨k, rfl⟩ : ∃ k : Nat, n = k := ⟨n.toNat, by omega⟩
    rw [Int.toNat_natCast] at h h'
    obtain ⟨hz', rfl⟩ := h'
    have e1 : σ1.1 71 = σ.1 71 := h.2.2 71 (by decide)
    have e2 : σ1.1 72 = σ.1 72 := h.2.2 72 (by decide)
    have e3 : σ1.1 73 = σ.1 73 := h.2.2 73 (by decide)
    refine ⟨hz'.trans h.1.symm, Inv_of h.2.1 (fun a ha => ?_) rfl (fun j hj => ?_) (fun q hq => ?_) (fun q hq j hj => ?_)⟩
    · rw [am_up_other (by omega), cp_ne (by omega)]
    · rw [am_up_other (by decide), cp_ne (by decide), e1]
    · rw [am_up_same, cp_ne (by decide), e3]
    · rw [am_up_other (by decide), am_cp_at, e1, e2]
      unfold imY imR
      by_cases c2 : q = k
      · rw [if_pos (by omega), if_pos c2]
        exact congrArg (σ.1 71) (by omega)
      · rw [if_neg (by omega), if_neg c2]
  · rw [if_neg c] at h h'
    obtain ⟨hz', rfl⟩ := h'
    exact ⟨hz'.trans h.1.symm, Inv_ex (S := []) (fun a ha => absurd ha List.not_mem_nil) h.2 Eqx.rf⟩
theorem pr_restore {σ : am_S} (hI : Inv σ) {n : Int} (hn : -2147483648 ≤ n ∧ n < 2147483648) : Two mX6_restore mX7_restore [vI n] σ := by
  refine (c_restore hI hn).mono (fun z σ1 h => ?_)
  by_cases c : 0 ≤ n ∧ n ≤ 1
  · rw [if_pos c] at h
    obtain ⟨k, rfl⟩ : ∃ k : Nat, n = k := ⟨n.toNat, by omega⟩
    rw [Int.toNat_natCast] at h
    by_cases c0 : σ.1 73 k = 0
    · rw [if_pos c0] at h
      have e3 : σ1.1 73 = σ.1 73 := h.2.2 73 (by decide)
      refine (c_restore7 (σ := σ1) (fun k hk => by rw [e3]; exact hI.2.2.1 k hk) hn).mono (fun z' σ2 h' => ?_)
      rw [if_pos c, Int.toNat_natCast, e3, if_pos c0] at h'
      obtain ⟨hz', rfl⟩ := h'
      exact ⟨hz'.trans h.1.symm, Inv_ex (S := []) (fun a ha => absurd ha List.not_mem_nil) h.2 Eqx.rf⟩
    · rw [if_neg c0] at h
      have e1 : σ1.1 71 = σ.1 71 := h.2.2 71 (by decide)
      have e2 : σ1.1 72 = σ.1 72 := h.2.2 72 (by decide)
      have e3 : σ1.1 73 = σ.1 73 := h.2.2 73 (by decide)
      refine (c_restore7 (σ := σ1) (fun k hk => by rw [e3]; exact hI.2.2.1 k hk) hn).mono (fun z' σ2 h' => ?_)
      rw [if_pos c, Int.toNat_natCast, e3, if_neg c0] at h'
      obtain ⟨hz', rfl⟩ := h'
      refine ⟨hz'.trans h.1.symm, Inv_of h.2.1 (fun a ha => ?_) rfl (fun j hj => ?_) (fun q hq => ?_) (fun q hq j hj => ?_)⟩
      · rw [cp_ne (by omega)]
      · rw [am_cp_at, if_pos (by omega), e2]
        rfl
      · rw [cp_ne (by decide), e3]
      · rw [cp_ne (by decide), e2]
        rfl
  · rw [if_neg c] at h
    have e3 : σ1.1 73 = σ.1 73 := h.2.2 73 (by decide)
    refine (c_restore7 (σ := σ1) (fun k hk => by rw [e3]; exact hI.2.2.1 k hk) hn).mono (fun z' σ2 h' => ?_)
    rw [if_neg c] at h'
    obtain ⟨hz', rfl⟩ := h'
    exact ⟨hz'.trans h.1.symm, Inv_ex (S := []) (fun a ha => absurd ha List.not_mem_nil) h.2 Eqx.rf⟩
