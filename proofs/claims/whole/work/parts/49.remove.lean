-- ===== a THING goes =====
def rmS (σ : am_S) (n d : Nat) : am_S := am_up (am_cpL (am_cp (am_cp (am_cp (am_cp σ 8 8 (d + 1) d (n - d - 1)) 9 9 (d + 1) d (n - d - 1)) 10 10 (d + 1) d (n - d - 1)) 11 11 (d + 1) d (n - d - 1)) 12 12 (5 * (d + 1)) (5 * d) (5 * (n - d - 1))) 7 0 ((n : Int) - 1)
theorem c_remove {σ : am_S} {n d : Nat} (hn : n ≤ 20) (hc : σ.1 7 0 = (n : Nat)) (hd : d < n) : Runs am_tab mX4_remove [vR 7, vI d] σ (QV (fun σ' => σ' = rmS σ n d)) := by
  refine Runs.of (by decide) rfl (by simp) (Nat.le_of_ble_eq_true rfl) ?_
  show AW am_tab mX4_remove 0 [some (vR 7), some (vI d), none] [] σ _
  refine AW_aload_n dX4_remove_0 rfl ?_
  refine AW_get dX4_remove_1 fX4_11 rfl rfl ?_
  refine AW_iload_n dX4_remove_4 rfl ?_
  refine AW_isub dX4_remove_5 ?_
  refine AW_iconst dX4_remove_6 ?_
  refine AW_isub dX4_remove_7 ?_
  rw [show σ.1 7 0 - (d : Int) - 1 = ((n - d - 1 : Nat) : Int) by omega]
  refine AW_istore_n (i := 2) (lv' := [_, _, _]) dX4_remove_8 rfl (by decide) (Nat.le_of_ble_eq_true rfl) rfl ?_
  refine AW_aload_n dX4_remove_9 rfl ?_
  refine AW_get dX4_remove_10 fX4_15 rfl rfl ?_
  refine AW_iload_n dX4_remove_13 rfl ?_
  refine AW_iconst dX4_remove_14 ?_
  refine AW_iadd dX4_remove_15 ?_
  refine AW_aload_n dX4_remove_16 rfl ?_
  refine AW_get dX4_remove_17 fX4_15 rfl rfl ?_
  refine AW_iload_n dX4_remove_20 rfl ?_
  refine AW_iload_n dX4_remove_21 rfl ?_
  rw [show (d : Int) + 1 = ((d + 1 : Nat) : Int) by omega]
  refine AW_copyi dX4_remove_22 kX4_32 (Nat.le_of_ble_eq_true rfl) (by decide +kernel) (Nat.le_of_ble_eq_true rfl) rfl rfl ⟨Nat.le_of_ble_eq_true rfl, Nat.le_of_ble_eq_true rfl⟩ (by omega) ?_
  refine AW_aload_n dX4_remove_25 rfl ?_
  refine AW_get dX4_remove_26 fX4_19 rfl rfl ?_
  refine AW_iload_n dX4_remove_29 rfl ?_
  refine AW_iconst dX4_remove_30 ?_
  refine AW_iadd dX4_remove_31 ?_
  refine AW_aload_n dX4_remove_32 rfl ?_
  refine AW_get dX4_remove_33 fX4_19 rfl rfl ?_
  refine AW_iload_n dX4_remove_36 rfl ?_
  refine AW_iload_n dX4_remove_37 rfl ?_
  rw [show (d : Int) + 1 = ((d + 1 : Nat) : Int) by omega]
  refine AW_copyi dX4_remove_38 kX4_32 (Nat.le_of_ble_eq_true rfl) (by decide +kernel) (Nat.le_of_ble_eq_true rfl) rfl rfl ⟨Nat.le_of_ble_eq_true rfl, Nat.le_of_ble_eq_true rfl⟩ (by omega) ?_
  refine AW_aload_n dX4_remove_41 rfl ?_
  refine AW_get dX4_remove_42 fX4_22 rfl rfl ?_
  refine AW_iload_n dX4_remove_45 rfl ?_
  refine AW_iconst dX4_remove_46 ?_
  refine AW_iadd dX4_remove_47 ?_
  refine AW_aload_n dX4_remove_48 rfl ?_
  refine AW_get dX4_remove_49 fX4_22 rfl rfl ?_
  refine AW_iload_n dX4_remove_52 rfl ?_
  refine AW_iload_n dX4_remove_53 rfl ?_
  rw [show (d : Int) + 1 = ((d + 1 : Nat) : Int) by omega]
  refine AW_copyi dX4_remove_54 kX4_32 (Nat.le_of_ble_eq_true rfl) (by decide +kernel) (Nat.le_of_ble_eq_true rfl) rfl rfl ⟨Nat.le_of_ble_eq_true rfl, Nat.le_of_ble_eq_true rfl⟩ (by omega) ?_
  refine AW_aload_n dX4_remove_57 rfl ?_
  refine AW_get dX4_remove_58 fX4_25 rfl rfl ?_
  refine AW_iload_n dX4_remove_61 rfl ?_
  refine AW_iconst dX4_remove_62 ?_
  refine AW_iadd dX4_remove_63 ?_
  refine AW_aload_n dX4_remove_64 rfl ?_
  refine AW_get dX4_remove_65 fX4_25 rfl rfl ?_
  refine AW_iload_n dX4_remove_68 rfl ?_
  refine AW_iload_n dX4_remove_69 rfl ?_
  rw [show (d : Int) + 1 = ((d + 1 : Nat) : Int) by omega]
  refine AW_copyi dX4_remove_70 kX4_32 (Nat.le_of_ble_eq_true rfl) (by decide +kernel) (Nat.le_of_ble_eq_true rfl) rfl rfl ⟨Nat.le_of_ble_eq_true rfl, Nat.le_of_ble_eq_true rfl⟩ (by omega) ?_
  refine AW_aload_n dX4_remove_73 rfl ?_
  refine AW_get dX4_remove_74 fX4_28 rfl rfl ?_
  refine AW_iload_n dX4_remove_77 rfl ?_
  refine AW_iconst dX4_remove_78 ?_
  refine AW_iadd dX4_remove_79 ?_
  refine AW_iconst dX4_remove_80 ?_
  refine AW_imul dX4_remove_81 ?_
  refine AW_aload_n dX4_remove_82 rfl ?_
  refine AW_get dX4_remove_83 fX4_28 rfl rfl ?_
  refine AW_iload_n dX4_remove_86 rfl ?_
  refine AW_iconst dX4_remove_87 ?_
  refine AW_imul dX4_remove_88 ?_
  refine AW_iload_n dX4_remove_89 rfl ?_
  refine AW_iconst dX4_remove_90 ?_
  refine AW_imul dX4_remove_91 ?_
  rw [show ((d : Int) + 1) * 5 = ((5 * (d + 1) : Nat) : Int) by omega, show (d : Int) * 5 = ((5 * d : Nat) : Int) by omega, show ((n - d - 1 : Nat) : Int) * 5 = ((5 * (n - d - 1) : Nat) : Int) by omega]
  refine AW_copyl dX4_remove_92 kX4_32 (Nat.le_of_ble_eq_true rfl) (by decide +kernel) (Nat.le_of_ble_eq_true rfl) rfl rfl ⟨Nat.le_of_ble_eq_true rfl, Nat.le_of_ble_eq_true rfl⟩ (by omega) ?_
  refine AW_aload_n dX4_remove_95 rfl ?_
  first | refine AW_dupR dX4_remove_96 ?_ | refine AW_dupI dX4_remove_96 ?_
  refine AW_get dX4_remove_97 fX4_11 rfl rfl ?_
  refine AW_iconst dX4_remove_100 ?_
  refine AW_isub dX4_remove_101 ?_
  refine AW_put dX4_remove_102 pX4_11 rfl rfl rfl rfl ?_
  refine AW_vret dX4_remove_105 rfl ?_
  refine ⟨rfl, ?_⟩
  unfold rmS
  rw [← hc]
  rfl
theorem rmS_off {σ : am_S} {n d a : Nat} (h : a ∉ [7, 8, 9, 10, 11]) : (rmS σ n d).1 a = σ.1 a := by
  simp only [List.mem_cons, List.not_mem_nil, or_false, not_or] at h
  unfold rmS
  rw [am_up_other (by omega)]
  show (am_cp (am_cp (am_cp (am_cp σ 8 8 (d + 1) d (n - d - 1)) 9 9 (d + 1) d (n - d - 1)) 10 10 (d + 1) d (n - d - 1)) 11 11 (d + 1) d (n - d - 1)).1 a = _
  rw [am_cp_other (by omega), am_cp_other (by omega), am_cp_other (by omega), am_cp_other (by omega)]
theorem rmS_off2 {σ : am_S} {n d a : Nat} (h : a ≠ 12) : (rmS σ n d).2 a = σ.2 a := by
  funext j
  show (if a = 12 ∧ _ then _ else σ.2 a j) = _
  exact if_neg (fun e => h e.1)
theorem rmS_7 {σ : am_S} {n d : Nat} : (rmS σ n d).1 7 0 = (n : Int) - 1 := rfl
theorem am_cp_at {σ : am_S} {a0 a sp dp n j : Nat} : (am_cp σ a0 a sp dp n).1 a j = if dp ≤ j ∧ j < dp + n then σ.1 a0 (sp + (j - dp)) else σ.1 a j := by
  show (if a = a ∧ dp ≤ j ∧ j < dp + n then _ else _) = _
  simp only [true_and]
theorem rmS_rows {σ : am_S} {n d k : Nat} (hd : d < n) (hk : k + 1 < n) : (rmS σ n d).1 8 k = σ.1 8 (if d ≤ k then k + 1 else k) ∧ (rmS σ n d).1 9 k = σ.1 9 (if d ≤ k then k + 1 else k) ∧ (rmS σ n d).1 10 k = σ.1 10 (if d ≤ k then k + 1 else k) ∧ (rmS σ n d).1 11 k = σ.1 11 (if d ≤ k then k + 1 else k) := by
  have key : ∀ (τ : am_S) (a : Nat), (am_cp τ a a (d + 1) d (n - d - 1)).1 a k = τ.1 a (if d ≤ k then k + 1 else k) := by
    intro τ a
    rw [am_cp_at]
    by_cases h : d ≤ k
    · rw [if_pos (by omega), if_pos h, show d + 1 + (k - d) = k + 1 by omega]
    · rw [if_neg (by omega), if_neg h]
  unfold rmS
  refine ⟨?_, ?_, ?_, ?_⟩
  · rw [am_up_other (by decide)]
    show (am_cp (am_cp (am_cp (am_cp σ 8 8 (d + 1) d (n - d - 1)) 9 9 (d + 1) d (n - d - 1)) 10 10 (d + 1) d (n - d - 1)) 11 11 (d + 1) d (n - d - 1)).1 8 k = _
    rw [am_cp_other (by decide), am_cp_other (by decide), am_cp_other (by decide), key]
  · rw [am_up_other (by decide)]
    show (am_cp (am_cp (am_cp (am_cp σ 8 8 (d + 1) d (n - d - 1)) 9 9 (d + 1) d (n - d - 1)) 10 10 (d + 1) d (n - d - 1)) 11 11 (d + 1) d (n - d - 1)).1 9 k = _
    rw [am_cp_other (by decide), am_cp_other (by decide), key, am_cp_other (by decide)]
  · rw [am_up_other (by decide)]
    show (am_cp (am_cp (am_cp (am_cp σ 8 8 (d + 1) d (n - d - 1)) 9 9 (d + 1) d (n - d - 1)) 10 10 (d + 1) d (n - d - 1)) 11 11 (d + 1) d (n - d - 1)).1 10 k = _
    rw [am_cp_other (by decide), key, am_cp_other (by decide), am_cp_other (by decide)]
  · rw [am_up_other (by decide)]
    show (am_cp (am_cp (am_cp (am_cp σ 8 8 (d + 1) d (n - d - 1)) 9 9 (d + 1) d (n - d - 1)) 10 10 (d + 1) d (n - d - 1)) 11 11 (d + 1) d (n - d - 1)).1 11 k = _
    rw [key, am_cp_other (by decide), am_cp_other (by decide), am_cp_other (by decide)]
theorem rmS_bit {σ : am_S} {n d k u : Nat} (hd : d < n) (hk : k + 1 < n) (hu : u < 320) : sbA (rmS σ n d) k u = sbA σ (if d ≤ k then k + 1 else k) u := by
  unfold sbA
  have e : (rmS σ n d).2 12 (5 * k + u / 64) = if 12 = 12 ∧ 5 * d ≤ 5 * k + u / 64 ∧ 5 * k + u / 64 < 5 * d + 5 * (n - d - 1) then σ.2 12 (5 * (d + 1) + (5 * k + u / 64 - 5 * d)) else σ.2 12 (5 * k + u / 64) := rfl
  rw [e]
  by_cases h : d ≤ k
  · rw [if_pos (by omega), if_pos h, show 5 * (d + 1) + (5 * k + u / 64 - 5 * d) = 5 * (k + 1) + u / 64 by omega]
  · rw [if_neg (by omega), if_neg h]
theorem dropX_b {X : Row} {d n : Nat} (hn : n ≤ 20) {j : Nat} (hj : j ≤ 300 ∨ (6401 ≤ j ∧ j ≤ 6422)) : dropX X d (n - 1) 0 j = X j := by
  unfold dropX
  rw [if_neg (by omega), if_neg (by omega), if_neg (by omega)]
theorem dropX_m {X : Row} {d k t : Nat} : dropX X d k t 6423 = X 6423 - 1 := if_pos rfl
theorem dropX_t {X : Row} {d n k : Nat} (hn : n ≤ 20) (hd : d < n) (hk : k + 1 < n) : dropX X d (n - 1) 0 (301 + k) = X (301 + if d ≤ k then k + 1 else k) ∧ dropX X d (n - 1) 0 (321 + k) = X (321 + if d ≤ k then k + 1 else k) ∧ dropX X d (n - 1) 0 (341 + k) = X (341 + if d ≤ k then k + 1 else k) ∧ dropX X d (n - 1) 0 (361 + k) = X (361 + if d ≤ k then k + 1 else k) := by
  unfold dropX
  by_cases h : d ≤ k
  · simp only [if_pos h]
    refine ⟨?_, ?_, ?_, ?_⟩ <;> rw [if_neg (by omega), if_pos (by omega)] <;> rfl
  · simp only [if_neg h]
    refine ⟨?_, ?_, ?_, ?_⟩ <;> rw [if_neg (by omega), if_neg (by omega), if_neg (by omega)]
theorem dropX_s {X : Row} {d n k u : Nat} (hn : n ≤ 20) (hd : d < n) (hk : k + 1 < n) (hu : u ≤ 300) : dropX X d (n - 1) 0 (381 + 301 * k + u) = X (381 + 301 * (if d ≤ k then k + 1 else k) + u) := by
  unfold dropX
  by_cases h : d ≤ k
  · rw [if_pos h, if_neg (by omega), if_neg (by omega), if_pos (by omega), show 381 + 301 * k + u + 301 = 381 + 301 * (k + 1) + u by omega]
  · rw [if_neg h, if_neg (by omega), if_neg (by omega), if_neg (by omega)]
theorem WX_drop {X : Row} (h : WX X) {d n : Nat} (hm : X 6423 = (n : Nat)) (hd : d < n) : WX (dropX X d (n - 1) 0) := by
  obtain ⟨w1, w2, w3, w4⟩ := h
  have hn : n ≤ 20 := by have := w2.1; omega
  refine ⟨WS_cg (fun j hj => dropX_b hn (Or.inl hj)) w1, ⟨by rw [dropX_m]; omega, fun k hk2 => ?_⟩, WA_cg (fun j h1 h2 => dropX_b hn (Or.inr ⟨h1, by omega⟩)) w3, WN_cg (dropX_b hn (by omega)) (dropX_b hn (by omega)) w4⟩
  rw [dropX_m] at hk2
  obtain ⟨e1, e2, e3, e4⟩ := dropX_t (X := X) hn hd (k := k) (by omega)
  rw [e1, e2, e3, e4]
  obtain ⟨a1, a2, a3, a4, a5⟩ := w2.2 (if d ≤ k then k + 1 else k) (by split <;> omega)
  refine ⟨a1, a2, a3, a4, fun u hu => ?_⟩
  rw [dropX_s hn hd (by omega) hu]
  exact a5 u hu
theorem CS_drop {σ : am_S} {X : Row} (h : WX X) (hC : CS σ X) {d n : Nat} (hm : X 6423 = (n : Nat)) (hd : d < n) : CS (rmS σ n d) (dropX X d (n - 1) 0) := by
  obtain ⟨w1, w2, w3, w4⟩ := h
  have hn : n ≤ 20 := by have := w2.1; omega
  have hC0 := hC
  obtain ⟨c1, c2, c3, c4, c5, c6, c7⟩ := hC
  refine CS.cgT (σ := σ) (X := X) (fun a _ _ ha => rmS_off ha) (fun j hj => dropX_b hn hj) hC0 ⟨?_, fun k hk => ?_⟩ (fun k hk u hu => ?_)
  · rw [rmS_7, dropX_m, hm]
  · rw [dropX_m] at hk
    obtain ⟨e1, e2, e3, e4⟩ := dropX_t (X := X) hn hd (k := k) (by omega)
    obtain ⟨g1, g2, g3, g4⟩ := rmS_rows (σ := σ) hd (k := k) (by omega)
    rw [e1, e2, e3, e4, g1, g2, g3, g4]
    exact c3.2 _ (by split <;> omega)
  · rw [dropX_m] at hk
    rw [rmS_bit hd (by omega) hu, c5 _ (by split <;> omega) u hu]
    apply decide_eq_decide.mpr
    by_cases q : u ≤ 300
    · rw [dropX_s hn hd (by omega) q]
    · omega
-- ===== a THING that is seen once more =====
theorem rup_at {X : Row} {j : Nat} {x : Int} : rup X j x j = x := if_pos rfl
theorem rup_ne {X : Row} {i j : Nat} {x : Int} (h : i ≠ j) : rup X j x i = X i := if_neg h
theorem WX_mark {X : Row} (h : WX X) {k t : Nat} (hk : (k : Int) < X 6423) (ht : t ≤ 300) : WX (rup X (381 + 301 * k + t) 1) := by
  obtain ⟨w1, w2, w3, w4⟩ := h
  have hn := w2.1
  refine ⟨WS_cg (fun j hj => rup_ne (by omega)) w1, ⟨by rw [rup_ne (by omega)]; exact hn, fun i hi => ?_⟩, WA_cg (fun j h1 h2 => rup_ne (by omega)) w3, WN_cg (rup_ne (by omega)) (rup_ne (by omega)) w4⟩
  rw [rup_ne (by omega)] at hi
  obtain ⟨a1, a2, a3, a4, a5⟩ := w2.2 i hi
  rw [rup_ne (by omega), rup_ne (by omega), rup_ne (by omega), rup_ne (by omega)]
  refine ⟨a1, a2, a3, a4, fun u hu => ?_⟩
  by_cases e : 381 + 301 * i + u = 381 + 301 * k + t
  · rw [e, rup_at]; omega
  · rw [rup_ne e]; exact a5 u hu
theorem CS_mark {σ : am_S} {X : Row} (h : WX X) (hC : CS σ X) {k t : Nat} (hk : (k : Int) < X 6423) (ht : t ≤ 300) : CS (mkS σ k t) (rup X (381 + 301 * k + t) 1) := by
  obtain ⟨w1, w2, w3, w4⟩ := h
  have hn := w2.1
  have hC0 := hC
  obtain ⟨c1, c2, c3, c4, c5, c6, c7⟩ := hC
  refine CS.cgT (σ := σ) (X := X) (fun a _ _ ha => rfl) (fun j hj => rup_ne (by omega)) hC0 (TO_cg (fun j h1 h2 => rup_ne (by omega)) (rup_ne (by omega)) w2 c3) (fun i hi u hu => ?_)
  rw [rup_ne (by omega)] at hi
  rw [mkS_bit hu ht, c5 i hi u hu]
  by_cases e : 381 + 301 * i + u = 381 + 301 * k + t
  · rw [e, rup_at]
    by_cases q : i = k ∧ u = t
    · rw [decide_eq_true q, Bool.or_true]
      exact (decide_eq_true (by omega)).symm
    · rw [decide_eq_false q, Bool.or_false]
      apply decide_eq_decide.mpr
      omega
  · rw [rup_ne e, decide_eq_false (p := i = k ∧ u = t) (fun q => e (by rw [q.1, q.2])), Bool.or_false]
