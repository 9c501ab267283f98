/-! ===== THE PLAN of the reference ===== -/
def gA (X : Row) (w : Int) (k : Nat) (s : Sl) : Prop := okS s ∧ avX X w k s.1 4 = (s.2 : Int)
def f0 : Sl → Prop := fun _ => False
/-- m is how many can be taken, without ARM w -/
def numX (X : Row) (w : Int) (n m : Nat) : Prop := IsMax (gA X w) (Pge n 0) f0 n m
def PSat (A : Nat → Sl → Prop) (n : Nat) (pl : Nat → Option Sl) (k : Nat) : Prop := (∀ s, pl k = some s → A k s ∧ ¬ Fof pl k s ∧ Works A n k (Fof pl k) s ∧ ∀ s', A k s' → ¬ Fof pl k s' → s'.1 < s.1 → ¬ Works A n k (Fof pl k) s') ∧ (pl k = none → ∀ s, A k s → ¬ Fof pl k s → ¬ Works A n k (Fof pl k) s)
theorem PSat.congr {A : Nat → Sl → Prop} {n k : Nat} {p q : Nat → Option Sl} (h : ∀ j, j ≤ k → p j = q j) (hp : PSat A n p k) : PSat A n q k := by
  unfold PSat
  rw [← Fof_congr (p := p) (q := q) (fun j hj => h j (by omega)), ← h k (Nat.le_refl _)]
  exact hp
theorem Fof_put {pl : Nat → Option Sl} {k : Nat} {s : Sl} : Fof (put pl k s) (k + 1) = Fx (Fof pl k) s := by
  funext x
  apply propext
  constructor
  · rintro ⟨j, hj, e⟩
    by_cases hjk : j = k
    · subst hjk; rw [put_self] at e; cases e; exact Or.inr rfl
    · rw [put_ne hjk] at e; exact Or.inl ⟨j, by omega, e⟩
  · rintro (⟨j, hj, e⟩ | rfl)
    · exact ⟨j, by omega, by rw [put_ne (by omega)]; exact e⟩
    · exact ⟨k, by omega, put_self⟩
theorem Fof_none {pl : Nat → Option Sl} {k : Nat} (h : pl k = none) : Fof pl (k + 1) = Fof pl k := by
  funext x
  apply propext
  constructor
  · rintro ⟨j, hj, e⟩
    have : j ≠ k := fun z => by subst z; rw [h] at e; cases e
    exact ⟨j, by omega, e⟩
  · rintro ⟨j, hj, e⟩
    exact ⟨j, by omega, e⟩
def wbR (W B : Row) (k : Nat) (o : Option Sl) : Prop := match o with
  | none => W k = -6 ∧ B k = -6
  | some s => W k = s.1 ∧ B k = s.2
/-- rows 75, 77, 78 as the search wants them, over X -/
def Gok (X : Row) (w : Int) (n : Nat) (σ : am_S) : Prop := (∀ j t, j < n → t ≤ 300 → σ.1 75 (301 * j + t) = avX X w j t 4) ∧ (∀ j, j < 20 → 0 ≤ σ.1 78 j ∧ σ.1 78 j ≤ 1) ∧ (∀ c, c < 1204 → 0 ≤ σ.1 77 c ∧ σ.1 77 c ≤ 1) ∧ σ.1 71 6423 = (n : Nat) ∧ n ≤ 20
theorem Gok.hG {X : Row} {w : Int} {n : Nat} {σ : am_S} (h : Gok X w n σ) : ∀ k t, k < n → t ≤ 300 → σ.1 75 (301 * k + t) = -6 ∨ 0 ≤ σ.1 75 (301 * k + t) ∧ σ.1 75 (301 * k + t) < 4 := by
  intro k t hk ht
  rw [h.1 k t hk ht]
  have hlo : ∀ a, avX X w k t a = -6 ∨ 0 ≤ avX X w k t a ∧ avX X w k t a < a := by
    intro a
    induction a with
    | zero => exact Or.inl rfl
    | succ a ih => simp only [avX]; split <;> omega
  exact hlo 4
theorem Gok.most {X : Row} {w : Int} {n : Nat} {σ : am_S} (h : Gok X w n σ) {fr m : Nat} {P : Nat → Prop} {F : Sl → Prop} (hm : IsMax (bx_Ad (σ.1 75)) (bx_P (σ.1 78) fr n) (bx_Fd (σ.1 77)) n m) (hP : ∀ j, bx_P (σ.1 78) fr n j ↔ P j) (hF : ∀ s, okS s → (bx_Fd (σ.1 77) s ↔ F s)) : IsMax (gA X w) P F n m := by
  refine hm.congr (fun k s hk => ?_) hP (fun k s hk ha => hF s ha.1)
  constructor
  · rintro ⟨a, b⟩; exact ⟨a, by rw [← h.1 k s.1 hk.2.1 a.1]; exact b⟩
  · rintro ⟨a, b⟩; exact ⟨a, by rw [h.1 k s.1 hk.2.1 a.1]; exact b⟩
theorem Gok.kept {X : Row} {w : Int} {n : Nat} {σ σ' : am_S} (h : Gok X w n σ) (hE : Eqx [76, 79, 80, 81] σ σ') : Gok X w n σ' := by
  unfold Gok
  rw [hE.1 75 (by decide), hE.1 77 (by decide), hE.1 78 (by decide), hE.1 71 (by decide)]
  exact h
def clS (σ : am_S) (w : Int) : am_S := am_row (am_row (laS σ w (301 * (σ.1 71 6423).toNat)) 77 1204 (fun _ => 0)) 78 20 (fun _ => 0)
theorem clS_ok {σ : am_S} {w : Int} {n : Nat} (hmany : σ.1 71 6423 = (n : Nat)) (hn : n ≤ 20) : Gok (σ.1 71) w n (clS σ w) ∧ (∀ j, j < 20 → (clS σ w).1 78 j = 0) ∧ (∀ c, c < 1204 → (clS σ w).1 77 c = 0) ∧ Eqx [74, 75, 77, 78] σ (clS σ w) := by
  have e78 : ∀ j, j < 20 → (clS σ w).1 78 j = 0 := fun j hj => am_row_at hj
  have e77 : ∀ c, c < 1204 → (clS σ w).1 77 c = 0 := fun c hc => by
    unfold clS
    rw [am_row_other (by decide), am_row_at hc]
  refine ⟨⟨fun j t hj ht => ?_, fun j hj => by rw [e78 j hj]; decide, fun c hc => by rw [e77 c hc]; decide, ?_, hn⟩, e78, e77, ?_⟩
  · unfold clS laS
    rw [am_row_other (by decide), am_row_other (by decide), am_row_at (by rw [hmany, Int.toNat_natCast]; omega)]
    unfold armR
    rw [show (301 * j + t) / 301 = j by omega, show (301 * j + t) % 301 = t by omega]
  · unfold clS
    rw [am_row_other (by decide), am_row_other (by decide), laS_71]
    exact hmany
  · unfold clS laS
    exact (((Eqx.rf.row (by decide)).row (by decide)).row (by decide)).row (by decide)
theorem bx_P_0 {O : Row} {fr n : Nat} (hO : ∀ j, j < 20 → O j = 0) (hn : n ≤ 20) : ∀ j, bx_P O fr n j ↔ Pge n fr j := fun j => ⟨fun h => ⟨h.1, h.2.1⟩, fun h => ⟨h.1, h.2, hO j (by have := h.2; omega)⟩⟩
theorem c_mostWithout7 {σ : am_S} (hS : WS (σ.1 71)) (hT : WT (σ.1 71)) (hA : WA (σ.1 71)) {n : Nat} (hmany : σ.1 71 6423 = (n : Nat)) {w : Int} (hw : -2147483648 ≤ w ∧ w < 2147483648) : Runs am_tab mX7_mostWithout [vR 70, vI w] σ (QI (fun z σ' => ∃ m : Nat, z = m ∧ numX (σ.1 71) w n m ∧ Eqx [74, 75, 76, 77, 78, 79, 80, 81] σ σ' ∧ Gok (σ.1 71) w n σ' ∧ (∀ j, j < 20 → σ'.1 78 j = 0) ∧ ∀ c, c < 1204 → σ'.1 77 c = 0)) := by
  refine Runs.of (by decide) rfl (by simp) (Nat.le_of_ble_eq_true rfl) ?_
  show AW am_tab mX7_mostWithout 0 [some (vR 70), some (vI w)] [] σ _
  have hn : n ≤ 20 := by have := hT.1; omega
  refine AW_aload_n dX7_mostWithout_0 rfl ?_
  refine AW_iload_n dX7_mostWithout_1 rfl ?_
  refine AW_cVV1 dX7_mostWithout_2 kX7_105 (am_fit_b rfl) rfl rfl (Nat.le_of_ble_eq_true rfl) (c_layArms7 hS hT hA hw) (fun σ' hq => ?_)
  replace hq := hq.symm
  subst hq
  refine AW_aload_n dX7_mostWithout_5 rfl ?_
  refine AW_cVV0 dX7_mostWithout_6 kX7_109 (am_fit_b rfl) rfl rfl (Nat.le_of_ble_eq_true rfl) (c_clear7) (fun σ' hq => ?_)
  replace hq := hq.symm
  subst hq
  have hcl := clS_ok (w := w) hmany hn
  refine AW_aload_n dX7_mostWithout_9 rfl ?_
  refine AW_iconst dX7_mostWithout_10 ?_
  refine AW_cVI1 dX7_mostWithout_11 kX7_112 (am_fit_b rfl) rfl rfl (Nat.le_of_ble_eq_true rfl) (c_most7 (σ0 := clS σ w) (n := n) (fr := 0) hn hcl.1.hG hcl.1.2.2.1 hcl.1.2.1 hcl.1.2.2.2.1 (by omega)) (fun z σ' hq => ?_)
  obtain ⟨m, rfl, h1, h2⟩ := hq
  refine AW_iret dX7_mostWithout_14 rfl ?_
  refine ⟨_, rfl, m, rfl, hcl.1.most h2 (bx_P_0 hcl.2.1 hn) (fun s hs => ?_), (hcl.2.2.2.mono (by decide)).tr (h1.mono (by decide)), hcl.1.kept h1, by rw [h1.1 78 (by decide)]; exact hcl.2.1, by rw [h1.1 77 (by decide)]; exact hcl.2.2.1⟩
  exact ⟨fun h => h (hcl.2.2.1 _ (enc_lt hs)), fun h => h.elim⟩
def PL (X : Row) (n : Nat) (σ0 σ : am_S) (k : Nat) (pl : Nat → Option Sl) (L : Nat) : Prop :=
  Eqx [70, 74, 75, 76, 77, 78, 79, 80, 81, 82, 83] σ0 σ ∧ Gok X (-6) n σ ∧ (∀ j, j < 20 → σ.1 78 j = 0) ∧ (∀ c, c < 1204 → (σ.1 77 c = 0 ∧ ¬ Fof pl k (dec c)) ∨ (σ.1 77 c = 1 ∧ Fof pl k (dec c))) ∧ IsMax (gA X (-6)) (Pge n k) (Fof pl k) n L ∧ (∀ j, j < k → wbR (σ.1 82) (σ.1 83) j (pl j)) ∧ (∀ j, j < k → PSat (gA X (-6)) n pl j) ∧ (∀ j, k ≤ j → pl j = none) ∧ σ.1 70 13 = σ0.1 70 13
theorem PL.L_le {X : Row} {n : Nat} {σ0 σ : am_S} {k : Nat} {pl : Nat → Option Sl} {L : Nat} (h : PL X n σ0 σ k pl L) : L ≤ 20 := by
  obtain ⟨⟨g, _, hg⟩, _⟩ := h.2.2.2.2.1
  rw [← hg, sz_cnt]
  exact Nat.le_trans (cnt_le _ _) h.2.1.2.2.2.2
/-- THING k stays without: nothing works -/
theorem PL.miss {X : Row} {n : Nat} {σ0 σ : am_S} {k : Nat} {pl : Nat → Option Sl} {L : Nat} (h : PL X n σ0 σ k pl L) (hk : k < n) (hno : ∀ s, gA X (-6) k s → ¬ Fof pl k s → ¬ Works (gA X (-6)) n k (Fof pl k) s) (hw : σ.1 82 k = -6 ∧ σ.1 83 k = -6) : PL X n σ0 σ (k + 1) pl L := by
  obtain ⟨h1, h2, h3, h4, h5, h6, h7, h8, h9⟩ := h
  have hpk := h8 k (Nat.le_refl _)
  have hF := Fof_none hpk
  refine ⟨h1, h2, h3, by rw [hF]; exact h4, by rw [hF]; exact max_skip hk h5 hno, fun j hj => ?_, fun j hj => ?_, fun j hj => h8 j (by omega), h9⟩
  · by_cases e : j = k
    · subst e; rw [hpk]; exact hw
    · exact h6 j (by omega)
  · by_cases e : j = k
    · subst e
      exact ⟨fun s hs => by (rw [hpk] at hs; cases hs), fun _ => hno⟩
    · exact h7 j (by omega)
/-- THING k is taken at s -/
theorem PL.take {X : Row} {n : Nat} {σ0 σ σ' : am_S} {k : Nat} {pl : Nat → Option Sl} {L m : Nat} {s : Sl} (h : PL X n σ0 σ k pl L) (hE : Eqx [70, 74, 75, 76, 77, 78, 79, 80, 81, 82, 83] σ0 σ') (hGo : Gok X (-6) n σ') (h78 : ∀ j, j < 20 → σ'.1 78 j = 0) (h77 : ∀ c, c < 1204 → σ'.1 77 c = if c = enc s then 1 else σ.1 77 c) (hok : okS s) (hA : gA X (-6) k s) (hF : ¬ Fof pl k s) (hm : IsMax (gA X (-6)) (Pge n (k + 1)) (Fx (Fof pl k) s) n m) (hL : L = m + 1) (hbest : ∀ s', gA X (-6) k s' → ¬ Fof pl k s' → s'.1 < s.1 → ¬ Works (gA X (-6)) n k (Fof pl k) s') (hw : ∀ j, j < k → σ'.1 82 j = σ.1 82 j ∧ σ'.1 83 j = σ.1 83 j) (hwk : σ'.1 82 k = s.1 ∧ σ'.1 83 k = s.2) (h70 : σ'.1 70 13 = σ0.1 70 13) : PL X n σ0 σ' (k + 1) (put pl k s) m := by
  obtain ⟨h1, h2, h3, h4, h5, h6, h7, h8, h9⟩ := h
  have hFe := Fof_put (pl := pl) (k := k) (s := s)
  refine ⟨hE, hGo, h78, fun c hc => ?_, by rw [hFe]; exact hm, fun j hj => ?_, fun j hj => ?_, fun j hj => by rw [put_ne (by omega)]; exact h8 j (by omega), h70⟩
  · rw [h77 c hc, hFe]
    by_cases e : c = enc s
    · rw [if_pos e]
      exact Or.inr ⟨rfl, Or.inr (by rw [e, dec_enc hok])⟩
    · rw [if_neg e]
      have hne : dec c ≠ s := fun z => e (by rw [← z, enc_dec])
      rcases h4 c hc with ⟨a, b⟩ | ⟨a, b⟩
      · exact Or.inl ⟨a, fun z => z.elim b hne⟩
      · exact Or.inr ⟨a, Or.inl b⟩
  · by_cases e : j = k
    · subst e; rw [put_self]; exact hwk
    · rw [put_ne e]
      have := h6 j (by omega)
      unfold wbR at this ⊢
      rw [(hw j (by omega)).1, (hw j (by omega)).2]
      exact this
  · by_cases e : j = k
    · subst e
      have hFj : Fof (put pl j s) j = Fof pl j := Fof_congr (fun i hi => put_ne (by omega))
      unfold PSat
      rw [hFj]
      refine ⟨fun x hx => ?_, fun hx => by (rw [put_self] at hx; cases hx)⟩
      rw [put_self] at hx
      cases hx
      exact ⟨hA, hF, ⟨m, hm, hL ▸ h5⟩, hbest⟩
    · exact (h7 j (by omega)).congr (fun i hi => (put_ne (by omega)).symm)
