/-- what a search that found nothing shows -/
def FailC (A : Nat → Sl → Prop) (n first : Nat) (f : Nat → Option Sl) (p : Nat → Bool) : Prop := (∀ j, first ≤ j → j < n → f j = none → p j = true) ∧ (∀ j, p j = true → first ≤ j ∧ j < n) ∧ (∀ k s, p k = true → A k s → ∃ h : Nat, f h = some s ∧ (h < first ∨ p h = true)) ∧ ∃ (op : Nat) (qq : Nat → Nat) (W : Row), TreeC A n first f op W qq ∧ ∀ k, p k = true ↔ ∃ j, j < op ∧ qq j = k
theorem fail_of {A : Nat → Sl → Prop} {n first q : Nat} {σ0 σ : am_S} {f : Nat → Option Sl} {op : Nat} {qq : Nat → Nat} {p : Nat → Bool} (hn : n ≤ 20) (hAok : ∀ k s, A k s → okS s) (hM : Mg A (fun j => j < n) f0 f) (hls : ∀ k, k < n → LsOK A k (σ0.1 (q + 1)) (σ0.1 (q + 2))) (hB : BQ A n first q f σ0 op qq p σ) (hun : ∀ j, first ≤ j → j < n → f j = none → p j = true) (hdone : (∀ j, j < op → (∀ (i1 : Nat) s, (i1 : Int) < σ0.1 (q + 2) (qq j) → okS s → σ0.1 (q + 1) (20 * (qq j) + i1) = enc4 s → ∃ h : Nat, f h = some s ∧ (h < first ∨ p h = true)))) : FailC A n first f p := by
  have hP : ∀ j, p j = true → first ≤ j ∧ j < n := fun j hj => by
    obtain ⟨i, hi, e⟩ := (hB.2.2.2.2.2.2 j).mp hj
    rw [← e]
    exact hB.2.2.2.2.2.1.2.1 i hi
  refine ⟨hun, hP, fun k s hk hA => ?_, op, qq, σ.1 (q + 6), hB.2.2.2.2.2.1, hB.2.2.2.2.2.2⟩
  obtain ⟨jk, hjk, ejk⟩ := (hB.2.2.2.2.2.2 k).mp hk
  have hv := hdone jk hjk
  rw [ejk] at hv
  obtain ⟨c, hc1, hc2, hc3, hc4, hc5⟩ := hls k (hP k hk).2
  rcases hc5 s hA with ⟨i, hi, he⟩ | ⟨hc20, _⟩
  · exact hv i s (by rw [hc1]; omega) (hAok k s hA) he
  · exfalso
    -- 20 slots, each held; and a thing that holds none: 21 things
    have hsrc : ∃ u, u < n ∧ f u = none := by
      have : ∀ j, j < op → ∃ u, u < n ∧ f u = none := by
        intro j
        induction j using Nat.strongRecOn with
        | ind j ih =>
          intro hj
          rcases hB.2.2.2.2.2.1.2.2 j hj with ⟨h, _⟩ | ⟨s', _, i, hi, _⟩
          · exact ⟨qq j, (hB.2.2.2.2.2.1.2.1 j hj).2, h⟩
          · exact ih i hi (by omega)
      exact this jk hjk
    obtain ⟨u, hu, hfu⟩ := hsrc
    have hch : ∀ i, ∃ h : Nat, i < 20 → ∃ s', okS s' ∧ σ0.1 (q + 1) (20 * k + i) = enc4 s' ∧ f h = some s' := by
      intro i
      by_cases hi : i < 20
      · obtain ⟨s', hs', he'⟩ := hc3 i (by omega)
        obtain ⟨h, hh, _⟩ := hv i s' (by rw [hc1]; omega) (hAok k s' hs') he'
        exact ⟨h, fun _ => ⟨s', hAok k s' hs', he', hh⟩⟩
      · exact ⟨0, fun h => absurd h hi⟩
    have hlen := q_len (q := qadd (fun i => Classical.choose (hch i)) 20 u) (op := 21) (n := n) (fun i j hi hj e => by
      by_cases c1 : i = 20
      · by_cases c2 : j = 20
        · omega
        · rw [qadd_at c1, qadd_ne c2] at e
          obtain ⟨s', _, _, h3⟩ := Classical.choose_spec (hch j) (by omega)
          rw [← e, hfu] at h3
          cases h3
      · by_cases c2 : j = 20
        · rw [qadd_ne c1, qadd_at c2] at e
          obtain ⟨s', _, _, h3⟩ := Classical.choose_spec (hch i) (by omega)
          rw [e, hfu] at h3
          cases h3
        · rw [qadd_ne c1, qadd_ne c2] at e
          obtain ⟨si, oi, ei, fi⟩ := Classical.choose_spec (hch i) (by omega)
          obtain ⟨sj, oj, ej, fj⟩ := Classical.choose_spec (hch j) (by omega)
          rw [e, fj] at fi
          cases fi
          rcases Nat.lt_trichotomy i j with z | z | z
          · have := hc4 i j si si z (by omega) oj oj ei ej; omega
          · exact z
          · have := hc4 j i si si z (by omega) oj oj ej ei; omega) (fun j hj => by
      by_cases c1 : j = 20
      · rw [qadd_at c1]; exact hu
      · rw [qadd_ne c1]
        obtain ⟨s', _, _, h3⟩ := Classical.choose_spec (hch j) (by omega)
        exact (hM.1 _ _ h3).1)
    omega
theorem c_takeOneMore {A : Nat → Sl → Prop} {n first q : Nat} {σ0 : am_S} {f : Nat → Option Sl} (hq : PT q) (hn : n ≤ 20) (hf20 : first ≤ 20) (hAok : ∀ k s, A k s → okS s) (hC : ConC n (σ0.1 (q + 4)) (σ0.1 (q + 3)) f) (hls : ∀ k, k < n → LsOK A k (σ0.1 (q + 1)) (σ0.1 (q + 2))) (hM : Mg A (fun j => j < n) f0 f) (hcount : σ0.1 q 0 = (n : Nat)) (hfn : first ≤ n) : Runs am_tab mX2_takeOneMore [vR q, vI first] σ0 (QI (fun z σ' => (z = 1 ∧ Eqx [q, q + 3, q + 4, q + 5, q + 6] σ0 σ' ∧ (σ'.1 q 0 = σ0.1 q 0 ∧ σ'.1 q 1 = σ0.1 q 1 ∧ σ'.1 q 10 = σ0.1 q 10) ∧ MoreC A n first f (σ'.1 (q + 4)) (σ'.1 (q + 3))) ∨ (z = 0 ∧ Eqx [q, q + 5, q + 6] σ0 σ' ∧ (σ'.1 q 0 = σ0.1 q 0 ∧ σ'.1 q 1 = σ0.1 q 1 ∧ σ'.1 q 10 = σ0.1 q 10) ∧ ∃ p : Nat → Bool, σ'.1 q 9 = (bset p 20 : Nat) ∧ FailC A n first f p))) := by
  refine Runs.of (by decide) rfl (by simp) (Nat.le_of_ble_eq_true rfl) ?_
  show AW am_tab mX2_takeOneMore 0 [some (vR q), some (vI first), none, none, none] [] σ0 _
  refine AW_aload_n dX2_takeOneMore_0 rfl ?_
  refine AW_iconst dX2_takeOneMore_1 ?_
  refine AW_put dX2_takeOneMore_2 pX2_37 hq.1 rfl rfl rfl ?_
  refine AW_aload_n dX2_takeOneMore_5 rfl ?_
  refine AW_iconst dX2_takeOneMore_6 ?_
  refine AW_put dX2_takeOneMore_7 pX2_40 hq.1 rfl rfl rfl ?_
  refine AW_iload_n dX2_takeOneMore_10 rfl ?_
  refine AW_istore_n (i := 2) (lv' := [_, _, _, _, _]) dX2_takeOneMore_11 rfl (by decide) (Nat.le_of_ble_eq_true rfl) rfl ?_
  have hB : BQ A n first q f σ0 0 (fun _ => 0) (fun _ => false) (am_up (am_up σ0 q 8 0) q 9 0) := by
    have rq : (am_up (am_up σ0 q 8 0) q 9 0).1 q = rup (rup (σ0.1 q) 8 0) 9 0 := by rw [am_up_same, am_up_same]
    have hb0 : bset (fun _ => false) 20 = 0 := by decide
    refine ⟨(Eqx.rf.up (by simp)).up (by simp), by rw [rq]; exact ⟨rfl, rfl, rfl⟩, by rw [rq]; rfl, by rw [rq, hb0]; rfl, fun j hj => absurd hj (Nat.not_lt_zero _), ⟨fun i j hi => absurd hi (Nat.not_lt_zero _), fun j hj => absurd hj (Nat.not_lt_zero _), fun j hj => absurd hj (Nat.not_lt_zero _)⟩, fun k => ⟨fun h => (Bool.false_ne_true h).elim, fun ⟨j, hj, _⟩ => absurd hj (Nat.not_lt_zero _)⟩⟩
  refine l_takeOne1 hq hn hf20 hAok hC hls hcount (fun op qq p σ hB2 hun hsrc => ?_) first hfn (Nat.le_refl _) 0 (fun _ => 0) (fun _ => false) _ hB (fun j h1 h2 => by omega) (fun j hj => absurd hj (Nat.not_lt_zero _))
  refine AW_iconst dX2_takeOneMore_41 ?_
  refine AW_istore_n (i := 2) (lv' := [_, _, _, _, _]) dX2_takeOneMore_42 rfl (by decide) (Nat.le_of_ble_eq_true rfl) rfl ?_
  refine l_takeOne2 hq hn hf20 hAok hC hls hM (fun op2 qq2 p2 σ2 hB3 σ3 hE3 hMo => ⟨1, rfl, Or.inl ⟨rfl, (hB3.1.mono (by simp)).tr (hE3.mono (by simp)), ?_, hMo⟩⟩) (fun op2 qq2 p2 σ2 hB3 hun2 hdone => ⟨0, rfl, Or.inr ⟨rfl, hB3.1, hB3.2.1, p2, hB3.2.2.2.1, fail_of hn hAok hM hls hB3 hun2 hdone⟩⟩) 0 (by omega) op qq p σ (by omega) hB2 hun (fun j hj => absurd hj (Nat.not_lt_zero _)) _ _
  rw [hE3.1 q (by simp)]
  exact hB3.2.1
