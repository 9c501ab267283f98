/-- what takeMost leaves in the Plan at q: a PLAN f that takes most, the lists, who can give way -/
def PlanC (X : Row) (w : Int) (n q : Nat) (σ : am_S) (f : Nat → Option Sl) : Prop := ConC n (σ.1 (q + 4)) (σ.1 (q + 3)) f ∧ Mg (gA X w) (fun j => j < n) f0 f ∧ (∀ k, k < n → LsOK (gA X w) k (σ.1 (q + 1)) (σ.1 (q + 2))) ∧ σ.1 q 0 = (n : Nat)
theorem PlanC.kept {X : Row} {w : Int} {n q : Nat} {σ σ' : am_S} {f : Nat → Option Sl} (h : PlanC X w n q σ f) (h1 : σ'.1 (q + 1) = σ.1 (q + 1)) (h2 : σ'.1 (q + 2) = σ.1 (q + 2)) (h3 : σ'.1 (q + 3) = σ.1 (q + 3)) (h4 : σ'.1 (q + 4) = σ.1 (q + 4)) (h0 : σ'.1 q 0 = σ.1 q 0) : PlanC X w n q σ' f := by
  unfold PlanC
  rw [h1, h2, h3, h4, h0]
  exact h
theorem fail_shut {A : Nat → Sl → Prop} {n : Nat} {f : Nat → Option Sl} {p : Nat → Bool} (h : FailC A n 0 f p) : Shut A f0 f (fun k => p k = true) := by
  intro k s hk hA _
  obtain ⟨j, h1, h2⟩ := h.2.2.1 k s hk hA
  exact ⟨j, h2.resolve_left (Nat.not_lt_zero _), h1⟩
theorem fail_max {A : Nat → Sl → Prop} {n : Nat} {f : Nat → Option Sl} {p : Nat → Bool} (hM : Mg A (fun j => j < n) f0 f) (h : FailC A n 0 f p) : IsMax A (fun j => j < n) f0 n (sz f n) := cert_max (fun _ h => h) hM (fun k hk hf => h.1 k (Nat.zero_le _) hk hf) (fail_shut h)
theorem Pge0 {n : Nat} : Pge n 0 = fun j => j < n := by
  funext j
  apply propext
  exact ⟨fun h => h.2, fun h => ⟨Nat.zero_le _, h⟩⟩
/-- a thing of the last search's tree can be missed -/
theorem tree_miss {A : Nat → Sl → Prop} {n : Nat} {f : Nat → Option Sl} {op : Nat} {W : Row} {qq : Nat → Nat} (hM : Mg A (fun j => j < n) f0 f) (hT : TreeC A n 0 f op W qq) : ∀ j, j < op → ∃ g, Mg A (fun j => j < n) f0 g ∧ sz g n = sz f n ∧ g (qq j) = none ∧ ∀ x, (∀ i, i ≤ j → x ≠ qq i) → g x = f x := by
  intro j
  induction j using Nat.strongRecOn with
  | ind j ih =>
    intro hj
    rcases hT.2.2 j hj with ⟨h, _⟩ | ⟨s, hs, i, hi, _, hA⟩
    · exact ⟨f, hM, rfl, h, fun _ _ => rfl⟩
    · obtain ⟨g, g1, g2, g3, g4⟩ := ih i hi (by omega)
      have hne : qq j ≠ qq i := fun e => by have := hT.1 j i hj (by omega) e; omega
      have hgj : g (qq j) = some s := by
        rw [g4 (qq j) (fun a ha e => by have := hT.1 j a hj (by omega) e; omega)]
        exact hs
      have hnj := (hT.2.1 j hj).2
      have hni := (hT.2.1 i (by omega)).2
      have hb : Mg A (fun j => j < n) f0 (but g (qq j)) := by
        refine ⟨fun x y hx => ?_, fun a b y ha hb => ?_⟩
        · by_cases e : x = qq j
          · rw [e, but_self] at hx; cases hx
          · rw [but_ne e] at hx; exact g1.1 x y hx
        · by_cases e : a = qq j
          · rw [e, but_self] at ha; cases ha
          · by_cases e2 : b = qq j
            · rw [e2, but_self] at hb; cases hb
            · rw [but_ne e] at ha
              rw [but_ne e2] at hb
              exact g1.2 a b y ha hb
      have hp := hb.put (k := qq i) (s := s) hni hA (fun h => h) (fun x hx => by
        by_cases e : x = qq j
        · rw [e, but_self] at hx; cases hx
        · rw [but_ne e] at hx; exact e (g1.2 x (qq j) s hx hgj))
      refine ⟨put (but g (qq j)) (qq i) s, hp, ?_, by rw [put_ne hne, but_self], fun x hx => ?_⟩
      · have e1 := sz_but hnj hgj
        have e2 := sz_put (f := but g (qq j)) (s := s) hni (by rw [but_ne (fun e => hne e.symm)]; exact g3)
        omega
      · rw [put_ne (hx i (by omega)), but_ne (hx j (Nat.le_refl _))]
        exact g4 x (fun a ha => hx a (by omega))
/-- the things that the last search did not come by are those in each PLAN that takes as many -/
theorem need_iff {X : Row} {n : Nat} {f : Nat → Option Sl} {p : Nat → Bool} (hM : Mg (gA X (-6)) (fun j => j < n) f0 f) (h : FailC (gA X (-6)) n 0 f p) {k : Nat} (hk : k < n) : needB X n k = true ↔ p k = false := by
  have hmax := fail_max hM h
  have hnum : numX X (-6) n (sz f n) := by unfold numX; rw [Pge0]; exact hmax
  rw [needB_t]
  constructor
  · rintro ⟨m, m', h1, h2, h3⟩
    cases e : p k with
    | false => rfl
    | true =>
      exfalso
      obtain ⟨op, qq, W, hT, hp⟩ := h.2.2.2
      obtain ⟨j, hj, hjk⟩ := (hp k).mp e
      obtain ⟨g, g1, g2, g3, _⟩ := tree_miss hM hT j hj
      rw [hjk] at g3
      have hg : Mg (gA X (-6)) (fun j => j < n ∧ j ≠ k) f0 g := ⟨fun x y hx => by
        obtain ⟨a, b, c⟩ := g1.1 x y hx
        exact ⟨⟨a, fun z => by rw [z, g3] at hx; cases hx⟩, b, c⟩, g1.2⟩
      have u1 := h2.2 g hg
      have u2 := h1.uniq hnum
      omega
  · intro e
    have hn := need_of hk hM (fun j hj hf => h.1 j (Nat.zero_le _) hj hf) (fail_shut h) (D := fun k => p k = true) (by rw [e]; decide)
    exact ⟨sz f n, sz f n - 1, hnum, hn.1, by omega⟩
theorem l_takeMost1 {X : Row} {n q : Nat} {w : Int} {σ0 : am_S} (hq : PT q) (hS : WS X) (hT : WT X) (hA : WA X) (hSO : SOK σ0 X) (hmany : X 6423 = (n : Nat)) (hw : -10 ≤ w ∧ w ≤ 10) {Q : Option am_V → am_S → Prop} (hk2 : ∀ σ, Eqx [q, q + 1, q + 2, q + 3, q + 4, q + 5, q + 6] σ0 σ → (ConC n (σ.1 (q + 4)) (σ.1 (q + 3)) (fun _ => none) ∧ σ.1 q 0 = (n : Nat) ∧ σ.1 q 1 = 0) → (∀ j, j < n → LsOK (gA X w) j (σ.1 (q + 1)) (σ.1 (q + 2))) → AW am_tab mX2_takeMost 55 [some (vR q), some (vR 2), some (vI w), some (vI (n : Nat))] [] σ Q) : ∀ i : Nat, i ≤ n → ∀ σ : am_S, Eqx [q, q + 1, q + 2, q + 3, q + 4, q + 5, q + 6] σ0 σ → (ConC n (σ.1 (q + 4)) (σ.1 (q + 3)) (fun _ => none) ∧ σ.1 q 0 = (n : Nat) ∧ σ.1 q 1 = 0) → (∀ j, j < i → LsOK (gA X w) j (σ.1 (q + 1)) (σ.1 (q + 2))) → AW am_tab mX2_takeMost 34 [some (vR q), some (vR 2), some (vI w), some (vI (i : Nat))] [] σ Q :=
  up_loop (fun i hi0 ih σ hE hem hls => by
    have hn : n ≤ 20 := by have := hT.1; omega
    refine AW_iload_n dX2_takeMost_34 rfl ?_
    refine AW_aload_n dX2_takeMost_35 rfl ?_
    refine AW_get dX2_takeMost_36 fX2_9 hq.1 rfl ?_
    rw [hem.2.1]
    refine AW_icmp_ge 55 dX2_takeMost_39 (by decide) (by omega) (by omega) (fun h39 => ?_) (fun h39 => ?_)
    · have e : i = n := by omega
      subst e
      exact hk2 σ hE hem hls
    · have hSO1 : SOK σ X := hSO.kept hE (by intro x hx; simp at hx; have := hq.2.2.2.2.2.2.2; omega)
      refine AW_aload_n dX2_takeMost_42 rfl ?_
      refine AW_aload_n dX2_takeMost_43 rfl ?_
      refine AW_iload_n dX2_takeMost_44 rfl ?_
      refine AW_iload_n dX2_takeMost_45 rfl ?_
      refine AW_cVV3 dX2_takeMost_46 kX2_61 (am_fit_b rfl) hq.1 rfl (Nat.le_of_ble_eq_true rfl) (c_listSlots hq hS hT hA hSO1 (by omega) hw) (fun σ' hq2 => ?_)
      obtain ⟨hE2, hout, hsc, hlk⟩ := hq2
      refine AW_iinc (lv' := [_, _, _, _]) dX2_takeMost_49 rfl (by decide) rfl ?_
      refine AW_goto (tgt := 34) dX2_takeMost_52 (by decide) ?_
      refine ih (by omega) σ' (hE.tr (hE2.mono (by simp))) ?_ (fun j hj => ?_)
      · rw [hE2.1 (q + 4) (by simp), hE2.1 (q + 3) (by simp), hE2.1 q (by simp)]
        exact hem
      · by_cases e : j = i
        · subst e; exact hlk
        · obtain ⟨c, c1, c2, c3, c4, c5⟩ := hls j (by omega)
          have hs : ∀ x, x < 20 → σ'.1 (q + 1) (20 * j + x) = σ.1 (q + 1) (20 * j + x) := fun x hx => hout _ (by omega)
          refine ⟨c, by rw [hsc j e]; exact c1, c2, fun x hx => by rw [hs x (by omega)]; exact c3 x hx, fun x y s s' hxy hy o o' e1 e2 => ?_, fun s hs' => ?_⟩
          · rw [hs x (by omega)] at e1
            rw [hs y (by omega)] at e2
            exact c4 x y s s' hxy hy o o' e1 e2
          · rcases c5 s hs' with ⟨x, hx, e1⟩ | ⟨h20, g⟩
            · exact Or.inl ⟨x, hx, by rw [hs x (by omega)]; exact e1⟩
            · exact Or.inr ⟨h20, fun x s' hx o e1 => g x s' hx o (by rw [hs x hx] at e1; exact e1)⟩)
set_option maxHeartbeats 4000000 in
theorem l_takeMost2 {X : Row} {n q : Nat} {w : Int} {σ0 : am_S} (hq : PT q) (hS : WS X) (hT : WT X) (hA : WA X) (hSO : SOK σ0 X) (hmany : X 6423 = (n : Nat)) (hw : -10 ≤ w ∧ w ≤ 10) {Q : Option am_V → am_S → Prop} (hQ : ∀ (f : Nat → Option Sl) (p : Nat → Bool) (σ : am_S), Eqx [q, q + 1, q + 2, q + 3, q + 4, q + 5, q + 6] σ0 σ → PlanC X w n q σ f → FailC (gA X w) n 0 f p → σ.1 q 1 = (sz f n : Nat) → σ.1 q 10 = (bset p 20 : Nat) → Q none σ) : ∀ i : Nat, i ≤ n → ∀ (f : Nat → Option Sl) (σ : am_S), Eqx [q, q + 1, q + 2, q + 3, q + 4, q + 5, q + 6] σ0 σ → PlanC X w n q σ f → σ.1 q 1 = (i : Nat) → i = sz f n → AW am_tab mX2_takeMost 57 [some (vR q), some (vR 2), some (vI w), some (vI (i : Nat))] [] σ Q :=
  up_loop (fun i hi0 ih f σ hE hP htk hiz => by
    have hn : n ≤ 20 := by have := hT.1; omega
    have hsz : sz f n ≤ n := by rw [sz_cnt]; exact cnt_le _ _
    refine AW_iload_n dX2_takeMost_57 rfl ?_
    refine AW_aload_n dX2_takeMost_58 rfl ?_
    refine AW_get dX2_takeMost_59 fX2_9 hq.1 rfl ?_
    rw [hP.2.2.2]
    refine AW_icmp_gt 89 dX2_takeMost_62 (by decide) (by omega) (by omega) (fun h62 => ?_) (fun h62 => ?_)
    · exfalso
      omega
    · refine AW_aload_n dX2_takeMost_65 rfl ?_
      refine AW_iconst dX2_takeMost_66 ?_
      refine AW_cVI1 dX2_takeMost_67 kX2_65 (am_fit_b rfl) hq.1 rfl (Nat.le_of_ble_eq_true rfl) (c_takeOneMore (A := gA X w) (n := n) (first := 0) (f := f) hq hn (by omega) gA_ok hP.1 hP.2.2.1 hP.2.1 hP.2.2.2 (Nat.zero_le _)) (fun z σ' hq2 => ?_)
      rcases hq2 with ⟨rfl, hE2, hfl, f', g1, g2, _, u, _, hu, hfu, hsu, hdom⟩ | ⟨rfl, hE2, hfl, p, hp9, hF⟩
      · refine AW_if_eq 89 dX2_takeMost_70 (by decide) (by decide) (fun h => absurd h (by decide)) (fun _ => ?_)
        refine AW_aload_n dX2_takeMost_73 rfl ?_
        first | refine AW_dupR dX2_takeMost_74 ?_ | refine AW_dupI dX2_takeMost_74 ?_
        refine AW_get dX2_takeMost_75 fX2_15 hq.1 rfl ?_
        rw [hfl.2.1, htk]
        refine AW_iconst dX2_takeMost_78 ?_
        refine AW_iadd dX2_takeMost_79 ?_
        refine AW_put dX2_takeMost_80 pX2_15 hq.1 rfl rfl rfl ?_
        refine AW_iinc (lv' := [_, _, _, _]) dX2_takeMost_83 rfl (by decide) rfl ?_
        refine AW_goto (tgt := 57) dX2_takeMost_86 (by decide) ?_
        have hsz2 : sz f' n = sz f n + 1 := by
          rw [sz_cnt, sz_cnt]
          exact cnt_add hu (by simp [hfu]) hsu (fun k _ hk => (hdom k hk).symm)
        refine ih (by have : sz f' n ≤ n := by rw [sz_cnt]; exact cnt_le _ _
                      omega) f' _ ((hE.tr (hE2.mono (by simp))).up (by simp)) ?_ (by rw [am_up_same]; exact if_pos rfl) (by omega)
        refine ⟨by rw [am_up_other (by omega), am_up_other (by omega)]; exact g1, g2, fun k hk => ?_, ?_⟩
        · rw [am_up_other (by omega), am_up_other (by omega), hE2.1 (q + 1) (by simp), hE2.1 (q + 2) (by simp)]
          exact hP.2.2.1 k hk
        · rw [am_up_same, show rup (σ'.1 q) 1 ((i : Int) + 1) 0 = σ'.1 q 0 from if_neg (by decide), hfl.1]
          exact hP.2.2.2
      · refine AW_if_eq 89 dX2_takeMost_70 (by decide) (by decide) (fun _ => ?_) (fun h => absurd rfl h)
        refine AW_aload_n dX2_takeMost_89 rfl ?_
        refine AW_aload_n dX2_takeMost_90 rfl ?_
        refine AW_get dX2_takeMost_91 fX2_40 hq.1 rfl ?_
        rw [hp9]
        refine AW_put dX2_takeMost_94 pX2_43 hq.1 rfl rfl rfl ?_
        refine AW_vret dX2_takeMost_97 rfl ?_
        refine hQ f p _ ((hE.tr (hE2.mono (by simp))).up (by simp)) ?_ hF ?_ ?_
        · refine hP.kept ?_ ?_ ?_ ?_ ?_
          · rw [am_up_other (by omega), hE2.1 (q + 1) (by simp)]
          · rw [am_up_other (by omega), hE2.1 (q + 2) (by simp)]
          · rw [am_up_other (by omega), hE2.1 (q + 3) (by simp)]
          · rw [am_up_other (by omega), hE2.1 (q + 4) (by simp)]
          · rw [am_up_same, show rup (σ'.1 q) 10 ((bset p 20 : Nat) : Int) 0 = σ'.1 q 0 from if_neg (by decide)]; exact hfl.1
        · rw [am_up_same, show rup (σ'.1 q) 10 ((bset p 20 : Nat) : Int) 1 = σ'.1 q 1 from if_neg (by decide), hfl.2.1, htk, hiz]
        · rw [am_up_same]; exact if_pos rfl)
