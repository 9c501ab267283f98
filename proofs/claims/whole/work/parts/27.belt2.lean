def BO (σ : am_S) (X : Row) : Prop := BeltOK X (σ.1 3 0) (σ.1 3 1) (σ.1 4) (σ.1 5)
/-- how many CHANGES there are -/
theorem belt_chg {X : Row} {fs c : Int} {tk sp : Row} (h : BeltOK X fs c tk sp) : c = chg X 300 := by
  have key : ∀ t, t ≤ 300 → ((cst fs c tk sp (t + 1)).2 : Int) = chg X t := by
    intro t
    induction t with
    | zero =>
      intro _
      have e : cst fs c tk sp 1 = cst fs c tk sp 0 := by
        show (if ((cst fs c tk sp 0).2 : Int) < c ∧ tk (cst fs c tk sp 0).2 = ((0 : Nat) : Int) then _ else _) = _
        rw [if_neg (fun q => by have := h.2.2.2.1 _ q.1; omega)]
      rw [e]
      rfl
    | succ t ih =>
      intro ht
      have hi := ih (by omega)
      obtain ⟨a, b, _⟩ := cst_inv h (t + 1) (by omega)
      obtain ⟨h1, h2, h3, h4, h5, h6, h7⟩ := h
      simp only [chg]
      by_cases hm : ((cst fs c tk sp (t + 1)).2 : Int) < c ∧ tk (cst fs c tk sp (t + 1)).2 = ((t + 1 : Nat) : Int)
      · have e : (cst fs c tk sp (t + 1 + 1)).2 = (cst fs c tk sp (t + 1)).2 + 1 := by
          rw [show cst fs c tk sp (t + 1 + 1) = if ((cst fs c tk sp (t + 1)).2 : Int) < c ∧ tk (cst fs c tk sp (t + 1)).2 = ((t + 1 : Nat) : Int) then (sp (cst fs c tk sp (t + 1)).2, (cst fs c tk sp (t + 1)).2 + 1) else cst fs c tk sp (t + 1) from rfl, if_pos hm]
        have g2 := h6 _ hm.1
        rw [hm.2, Int.toNat_natCast] at g2
        have g3 := (h3 (cst fs c tk sp (t + 1)).2 (by omega)).2
        rw [e, if_neg (by omega)]
        omega
      · have e : (cst fs c tk sp (t + 1 + 1)).2 = (cst fs c tk sp (t + 1)).2 := by
          rw [show cst fs c tk sp (t + 1 + 1) = if ((cst fs c tk sp (t + 1)).2 : Int) < c ∧ tk (cst fs c tk sp (t + 1)).2 = ((t + 1 : Nat) : Int) then (sp (cst fs c tk sp (t + 1)).2, (cst fs c tk sp (t + 1)).2 + 1) else cst fs c tk sp (t + 1) from rfl, if_neg hm]
        have hneg : X (t + 1) < 0 := by
          by_cases q : X (t + 1) < 0
          · exact q
          · obtain ⟨i, hi', hti⟩ := h7 (t + 1) (by omega) (by omega) (by omega)
            by_cases r : i < (cst fs c tk sp (t + 1)).2
            · have := a i r; omega
            · have hb := b (cst fs c tk sp (t + 1)).2 (Nat.le_refl _) (by omega)
              by_cases z : i = (cst fs c tk sp (t + 1)).2
              · exact absurd ⟨by omega, by rw [← z]; exact hti⟩ hm
              · have := h5 (cst fs c tk sp (t + 1)).2 i (by omega) hi'
                omega
        rw [e, if_pos hneg]
        omega
  have h1 := key 300 (Nat.le_refl _)
  have hb := cst_b (fs := fs) (tk := tk) (sp := sp) h.2.1.1 301
  by_cases z : ((cst fs c tk sp 301).2 : Int) < c
  · have := (cst_inv h 301 (Nat.le_refl _)).2.1 _ (Nat.le_refl _) z
    have := (h.2.2.1 (cst fs c tk sp 301).2 (by have := h.2.1; omega)).1
    omega
  · have : (cst fs c tk sp (300 + 1)).2 = (cst fs c tk sp 301).2 := rfl
    omega
theorem belt_0 {X : Row} {fs c n : Int} {tk sp : Row} (h : BeltOK X fs c tk sp) : BeltOK (rup X 0 n) n c tk sp := by
  obtain ⟨h1, h2, h3, h4, h5, h6, h7⟩ := h
  refine ⟨(if_pos rfl).symm, h2, h3, h4, h5, fun i hi => ?_, fun t t1 t2 t3 => ?_⟩
  · have := h4 i hi
    rw [show rup X 0 n (tk i).toNat = X (tk i).toNat from if_neg (by omega)]
    exact h6 i hi
  · rw [show rup X 0 n t = X t from if_neg (by omega)] at t3
    exact h7 t t1 t2 t3
theorem belt_at {X : Row} {fs c n : Int} {tk sp : Row} (h : BeltOK X fs c tk sp) (hn : 0 ≤ n ∧ n ≤ 9) {i t : Nat} (hi : (i : Int) < c) (ht : tk i = (t : Nat)) : BeltOK (rup X t n) fs c tk (rup sp i n) := by
  obtain ⟨h1, h2, h3, h4, h5, h6, h7⟩ := h
  have g := h4 i hi
  refine ⟨?_, h2, fun j hj => ⟨(h3 j hj).1, ?_⟩, h4, h5, fun j hj => ?_, fun u u1 u2 u3 => ?_⟩
  · rw [show rup X t n 0 = X 0 from if_neg (by omega)]; exact h1
  · simp only [rup]
    split
    · exact hn
    · exact (h3 j hj).2
  · simp only [rup]
    by_cases e : j = i
    · subst e
      rw [if_pos (by omega), if_pos rfl]
    · have : tk j ≠ tk i := by
        rcases Nat.lt_or_gt_of_ne e with q | q
        · have := h5 j i q hi; omega
        · have := h5 i j q hj; omega
      rw [if_neg (by have := h4 j hj; omega), if_neg e]
      exact h6 j hj
  · by_cases e : u = t
    · exact ⟨i, hi, by omega⟩
    · rw [show rup X t n u = X u from if_neg e] at u3
      exact h7 u u1 u2 u3
/-- a row with one more, with one less -/
def insR (f : Row) (a c : Nat) (x : Int) : Row := fun i => if i < a then f i else if i = a then x else if i ≤ c then f (i - 1) else f i
def remR (f : Row) (a c : Nat) : Row := fun i => if a ≤ i ∧ i + 1 < c then f (i + 1) else f i
theorem belt_ins {X : Row} {fs n : Int} {tk sp : Row} {c m t : Nat} (h : BeltOK X fs (c : Nat) tk sp) (hn : 0 ≤ n ∧ n ≤ 9) (hc : c < 8) (ht : 1 ≤ t ∧ t ≤ 300) (hm : m ≤ c) (h1m : ∀ i, i < m → tk i < t) (h2m : ∀ i, m ≤ i → i < c → (t : Int) < tk i) : BeltOK (rup X t n) fs ((c : Int) + 1) (insR tk m c t) (insR sp m c n) := by
  obtain ⟨h1, h2, h3, h4, h5, h6, h7⟩ := h
  refine ⟨?_, by omega, fun j hj => ?_, fun j hj => ?_, fun i j hij hj => ?_, fun j hj => ?_, fun u u1 u2 u3 => ?_⟩
  · rw [show rup X t n 0 = X 0 from if_neg (by omega)]; exact h1
  · simp only [insR]
    split
    · exact h3 j hj
    · split
      · exact ⟨by omega, hn⟩
      · split
        · exact h3 (j - 1) (by omega)
        · exact h3 j hj
  · simp only [insR]
    split
    · exact h4 j (by omega)
    · split
      · omega
      · rw [if_pos (by omega)]; exact h4 (j - 1) (by omega)
  · simp only [insR]
    by_cases a1 : i < m
    · rw [if_pos a1]
      by_cases b1 : j < m
      · rw [if_pos b1]; exact h5 i j hij (by omega)
      · rw [if_neg b1]
        by_cases b2 : j = m
        · rw [if_pos b2]; exact h1m i a1
        · rw [if_neg b2, if_pos (by omega)]
          have := h1m i a1
          have := h2m (j - 1) (by omega) (by omega)
          omega
    · rw [if_neg a1, if_neg (show ¬ j < m by omega), if_neg (show ¬ j = m by omega), if_pos (show j ≤ c by omega)]
      by_cases a2 : i = m
      · rw [if_pos a2]; exact h2m (j - 1) (by omega) (by omega)
      · rw [if_neg a2, if_pos (by omega)]; exact h5 (i - 1) (j - 1) (by omega) (by omega)
  · simp only [insR]
    by_cases a1 : j < m
    · rw [if_pos a1, if_pos a1]
      have g1 := h1m j a1
      have g2 := h4 j (by omega)
      rw [show rup X t n (tk j).toNat = X (tk j).toNat from if_neg (by omega)]
      exact h6 j (by omega)
    · rw [if_neg a1, if_neg a1]
      by_cases a2 : j = m
      · rw [if_pos a2, if_pos a2, Int.toNat_natCast]; exact if_pos rfl
      · rw [if_neg a2, if_neg a2, if_pos (by omega), if_pos (by omega)]
        have g1 := h2m (j - 1) (by omega) (by omega)
        rw [show rup X t n (tk (j - 1)).toNat = X (tk (j - 1)).toNat from if_neg (by omega)]
        exact h6 (j - 1) (by omega)
  · by_cases e : u = t
    · refine ⟨m, by omega, ?_⟩
      rw [show insR tk m c t m = (t : Int) from (if_neg (by omega)).trans (if_pos rfl), e]
    · rw [show rup X t n u = X u from if_neg e] at u3
      obtain ⟨i, hi, hti⟩ := h7 u u1 u2 u3
      by_cases a1 : i < m
      · refine ⟨i, by omega, ?_⟩
        simp only [insR]
        rw [if_pos a1]; exact hti
      · refine ⟨i + 1, by omega, ?_⟩
        simp only [insR]
        rw [if_neg (by omega), if_neg (by omega), if_pos (by omega)]
        exact hti
theorem belt_rem {X : Row} {fs : Int} {tk sp : Row} {c a t : Nat} (h : BeltOK X fs (c : Nat) tk sp) (ha : a < c) (ht : tk a = (t : Nat)) : BeltOK (rup X t (-6)) fs ((c : Int) - 1) (remR tk a c) (remR sp a c) := by
  obtain ⟨h1, h2, h3, h4, h5, h6, h7⟩ := h
  have g0 := h4 a (by omega)
  refine ⟨?_, by omega, fun j hj => ?_, fun j hj => ?_, fun i j hij hj => ?_, fun j hj => ?_, fun u u1 u2 u3 => ?_⟩
  · rw [show rup X t (-6) 0 = X 0 from if_neg (by omega)]; exact h1
  · simp only [remR]
    split
    · rename_i q; exact h3 (j + 1) (by omega)
    · exact h3 j hj
  · simp only [remR]
    split
    · exact h4 (j + 1) (by omega)
    · exact h4 j (by omega)
  · simp only [remR]
    by_cases a1 : a ≤ i
    · rw [if_pos (by omega), if_pos (by omega)]; exact h5 (i + 1) (j + 1) (by omega) (by omega)
    · rw [if_neg (by omega)]
      by_cases b1 : a ≤ j
      · rw [if_pos (by omega)]; exact h5 i (j + 1) (by omega) (by omega)
      · rw [if_neg (by omega)]; exact h5 i j hij (by omega)
  · simp only [remR]
    by_cases b1 : a ≤ j
    · rw [if_pos (by omega), if_pos (by omega)]
      have g1 := h5 a (j + 1) (by omega) (by omega)
      rw [show rup X t (-6) (tk (j + 1)).toNat = X (tk (j + 1)).toNat from if_neg (by omega)]
      exact h6 (j + 1) (by omega)
    · rw [if_neg (by omega), if_neg (by omega)]
      have g1 := h5 j a (by omega) (by omega)
      have g2 := h4 j (by omega)
      rw [show rup X t (-6) (tk j).toNat = X (tk j).toNat from if_neg (by omega)]
      exact h6 j (by omega)
  · by_cases e : u = t
    · rw [e, show rup X t (-6) t = -6 from if_pos rfl] at u3; omega
    · rw [show rup X t (-6) u = X u from if_neg e] at u3
      obtain ⟨i, hi, hti⟩ := h7 u u1 u2 u3
      have hia : i ≠ a := fun z => by subst z; omega
      by_cases b1 : i < a
      · refine ⟨i, by omega, ?_⟩
        simp only [remR]
        rw [if_neg (by omega)]; exact hti
      · refine ⟨i - 1, by omega, ?_⟩
        simp only [remR]
        rw [if_pos (by omega), show i - 1 + 1 = i by omega]; exact hti
theorem l_begunBy {σ : am_S} {X : Row} (hB : BO σ X) {tick : Int} (htick : -2147483648 ≤ tick ∧ tick < 2147483648) {Q : Option am_V → am_S → Prop} (hQ : ∀ m : Nat, (m : Int) ≤ σ.1 3 1 → (∀ i, i < m → σ.1 4 i ≤ tick) → (∀ i : Nat, m ≤ i → (i : Int) < σ.1 3 1 → tick < σ.1 4 i) → Q (some (vI (m : Nat))) σ) : ∀ i : Nat, i ≤ (σ.1 3 1).toNat → (∀ j, j < i → σ.1 4 j ≤ tick) → AW am_tab mX1_begunBy 2 [some (vR 3), some (vI tick), some (vI (i : Nat))] [] σ Q :=
  up_loop (fun i hi0 ih hp => by
    have hc := hB.2.1
    refine AW_iload_n dX1_begunBy_2 rfl ?_
    refine AW_aload_n dX1_begunBy_3 rfl ?_
    refine AW_get dX1_begunBy_4 fX1_15 rfl rfl ?_
    refine AW_icmp_ge 26 dX1_begunBy_7 (by decide) (by omega) (by omega) (fun h7 => ?_) (fun h7 => ?_)
    · refine AW_iload_n dX1_begunBy_26 rfl ?_
      refine AW_iret dX1_begunBy_27 rfl ?_
      refine hQ i (by omega) hp (fun j hj hjc => ?_)
      by_cases e : j = i
      · subst e; omega
      · have := hB.2.2.2.2.1 i j (by omega) hjc
        omega
    · refine AW_aload_n dX1_begunBy_10 rfl ?_
      refine AW_get dX1_begunBy_11 fX1_18 rfl rfl ?_
      refine AW_iload_n dX1_begunBy_14 rfl ?_
      refine AW_ialdN (j := i) dX1_begunBy_15 rfl (Nat.le_of_ble_eq_true rfl) (by omega) (by omega) ?_
      have htb := hB.2.2.1 i (by omega)
      refine AW_iload_n dX1_begunBy_16 rfl ?_
      refine AW_icmp_gt 26 dX1_begunBy_17 (by decide) (by omega) (by omega) (fun h17 => ?_) (fun h17 => ?_)
      · refine AW_iload_n dX1_begunBy_26 rfl ?_
        refine AW_iret dX1_begunBy_27 rfl ?_
        refine hQ i (by omega) hp (fun j hj hjc => ?_)
        by_cases e : j = i
        · subst e; omega
        · have := hB.2.2.2.2.1 i j (by omega) hjc
          omega
      · refine AW_iinc (lv' := [_, _, _]) dX1_begunBy_20 rfl (by decide) rfl ?_
        refine AW_goto (tgt := 2) dX1_begunBy_23 (by decide) ?_
        exact ih (by omega) (fun j hj => by
          by_cases e : j = i
          · subst e; omega
          · exact hp j (by omega)))
theorem c_begunBy {σ : am_S} {X : Row} (hB : BO σ X) {tick : Int} (htick : -2147483648 ≤ tick ∧ tick < 2147483648) : Runs am_tab mX1_begunBy [vR 3, vI tick] σ (QI (fun z σ' => σ = σ' ∧ (∃ m : Nat, z = m ∧ (m : Int) ≤ σ.1 3 1 ∧ (∀ i, i < m → σ.1 4 i ≤ tick) ∧ ∀ i : Nat, m ≤ i → (i : Int) < σ.1 3 1 → tick < σ.1 4 i))) := by
  refine Runs.of (by decide) rfl (by simp) (Nat.le_of_ble_eq_true rfl) ?_
  show AW am_tab mX1_begunBy 0 [some (vR 3), some (vI tick), none] [] σ _
  refine AW_iconst dX1_begunBy_0 ?_
  refine AW_istore_n (i := 2) (lv' := [_, _, _]) dX1_begunBy_1 rfl (by decide) (Nat.le_of_ble_eq_true rfl) rfl ?_
  exact l_begunBy hB htick (fun m h1 h2 h3 => ⟨_, rfl, rfl, m, rfl, h1, h2, h3⟩) 0 (by omega) (fun j hj => by omega)
