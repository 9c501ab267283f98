/-- a contract out of a walk, for a method of the JDK that no native row stands for -/
theorem Met.ofWF {l : Launch} {y : MethodName} {ws ws' : List Cond} {rm : Room} {Pc : Array Value → State → Prop} {Qc : Array Value → State → Outcome → State → Prop} {mc ms : Nat} {free : Addr → Prop} {cc : ByteArray} {maxL : Nat} {ret : Option FieldType}
    (hy : plainFor y = true) (hw : ws = Cond.code y cc maxL ret :: ws')
    (body : ∀ p e s m args below meth c s₁, BodyLoose p l y (headSpec ws rm) cc maxL ret e s m args below meth c s₁ → c.maxLocals = maxL → Pc args s →
      W p l e (headSpec ws rm).room s m args below meth c s.heap [] 0 0 (MQ below Qc args s mc ms free) (entryFrame m args maxL)) : Met l y ws rm Pc Qc mc ms free := by
  refine MetFree.of_bodySF (code := cc) (maxLocals := maxL) (ret := ret) hy ?_ ?_
  · intro args s m h hn
    obtain ⟨meth, c, h1, h2, h3, h4, h5, h6, -, -⟩ := Cond.code_spec hn (atoms_spec (ws := ws) h _ (by rw [hw]; exact List.mem_cons_self))
    exact ⟨meth, c, h1, h2, h3, h4, h5, h6⟩
  · intro p e s m args below meth c s₁ B hml hP _
    have hh0 : s₁.heap = s.heap := by rw [B.state]; rfl
    obtain ⟨t, a1, o, b1, b2, b3⟩ := body p e s m args below meth c s₁ B hml hP s₁ hh0 (Stand.of_body B)
    exact ⟨t, o, a1, b1, b2, ⟨b3.1, b3.2⟩⟩
theorem Runs.ofF {T : List am_C} {M : am_M} {av : List am_V} {σ : am_S} {Q : Option am_V → am_S → Prop} (hy : plainFor M.1 = true) (hk : M.2.2.2.2.2 = (0, 0)) (hcat : ∀ u ∈ av, ∀ x, u ≠ vL x) (hlen : av.length ≤ M.2.2.1) (h : AW T M 0 (am_lv0 av M.2.2.1) [] σ Q) : Runs T M av σ Q := by
  intro l E
  refine Met.ofWF (cc := M.2.1) (maxL := M.2.2.1) (ret := M.2.2.2.1) hy rfl ?_
  intro p e s m args below meth c s₁ B hml hv
  obtain ⟨rfl, G⟩ := hv
  have hc : ∀ u ∈ av, (am_tr E u).category = 1 := fun u hu => am_cat1 (hcat u hu)
  have hl := lv_entry (av.map (am_tr E)) (n := M.2.2.1) (by rw [am_sl_len av hc]; exact hlen)
  rw [lg_entry_eq]
  have C : am_Cx M p s m (av.map (am_tr E)).toArray meth c := ⟨B.exec, B.bytes, B.returns, hml, findClass_of_methodNamed B.named, atoms_spec (ws := am_wd M) B.pre, B.notSynchronized⟩
  have hk1 : M.2.2.2.2.2.1 = 0 := by rw [hk]
  have hk2 : M.2.2.2.2.2.2 = 0 := by rw [hk]
  have hw := h E p l e s m (av.map (am_tr E)).toArray below meth c s.heap [] _ C G va_S.rf ⟨hl.1, hl.2.1, fun i v hi hcv => ?_⟩
  · rw [hk1, hk2] at hw ⊢
    exact hw
  · have : av[i]? = some v := by
      unfold am_lv0 at hi
      by_cases hlt : i < av.length
      · rw [List.getElem?_append_left (by simpa using hlt), List.getElem?_map] at hi
        cases hav : av[i]? with
        | none => rw [hav] at hi; cases hi
        | some w => rw [hav] at hi; cases hi; rfl
      · rw [List.getElem?_append_right (by simpa using hlt), List.getElem?_replicate] at hi
        split at hi <;> cases hi
    have hm := am_lv_args (E := E) av 0 i v hc this
    have := hl.2.2 _ hm
    simpa using this
/-! ===== THE CLASS: its arms ===== -/
theorem i32_xor_sign {x y : Int} (hx : -2147483648 ≤ x ∧ x < 2147483648) (hy : 0 ≤ y ∧ y < 2147483648) : 0 ≤ (Int32.ofInt x ^^^ Int32.ofInt y).toInt ↔ 0 ≤ x := by
  have h1 : (Int32.ofInt x ^^^ Int32.ofInt y).toInt = ((Int32.ofInt x).toBitVec ^^^ (Int32.ofInt y).toBitVec).toInt := rfl
  have e1 := BitVec.msb_eq_toInt (x := (Int32.ofInt x).toBitVec)
  have e2 := BitVec.msb_eq_toInt (x := (Int32.ofInt y).toBitVec)
  have e3 := BitVec.msb_eq_toInt (x := (Int32.ofInt x).toBitVec ^^^ (Int32.ofInt y).toBitVec)
  rw [BitVec.msb_xor] at e3
  have tx : (Int32.ofInt x).toBitVec.toInt = x := i32_toInt hx
  have ty : (Int32.ofInt y).toBitVec.toInt = y := i32_toInt ⟨by omega, hy.2⟩
  rw [tx] at e1
  rw [ty, decide_eq_false (show ¬ y < 0 by omega)] at e2
  rw [e1, e2, Bool.xor_false] at e3
  rw [h1]
  by_cases c : x < 0
  · rw [decide_eq_true c] at e3
    have := of_decide_eq_true e3.symm
    omega
  · rw [decide_eq_false c] at e3
    have := of_decide_eq_false e3.symm
    omega
theorem tmod_pos {x y : Int} (hx : 0 ≤ x) : x.tmod y = x % y := Int.tmod_eq_emod_of_nonneg hx
theorem tmod_neg {x y : Int} (hy : 0 < y) (hx : x < 0) : (x.tmod y = 0 ∧ x % y = 0) ∨ (x.tmod y ≠ 0 ∧ x % y = x.tmod y + y) := by
  by_cases h : x.tmod y = 0
  · exact Or.inl ⟨h, Int.emod_eq_zero_of_dvd (Int.dvd_of_tmod_eq_zero h)⟩
  · refine Or.inr ⟨h, ?_⟩
    have h1 := Int.tmod_lt_of_pos x hy
    have h2 := Int.neg_lt_tmod_of_pos x hy
    have hle : x.tmod y ≤ 0 := by
      have := Int.neg_tmod x y
      have h3 := Int.tmod_nonneg y (show 0 ≤ -x by omega)
      omega
    have e := Int.tmod_add_tdiv_mul x y
    have e2 : x = (x.tmod y + y) + (x.tdiv y - 1) * y := by
      rw [Int.sub_mul, Int.one_mul]
      omega
    rw [e2, Int.add_mul_emod_self_right, ← e2]
    exact Int.emod_eq_of_lt (by omega) (by omega)
theorem c_floorMod {T : List am_C} {σ : am_S} {x y : Int} (hx : -2147483648 ≤ x ∧ x < 2147483648) (hy : 0 < y ∧ y < 2147483648) : Runs T mJ9_floorMod_7cf53 [vI x, vI y] σ (QI (fun z σ' => z = x % y ∧ σ' = σ)) := by
  refine Runs.ofF (by decide +kernel) rfl (by simp) (Nat.le_of_ble_eq_true rfl) ?_
  show AW T mJ9_floorMod_7cf53 0 [some (vI x), some (vI y), none] [] σ _
  have hm1 := Int.tmod_lt_of_pos x hy.1
  have hm2 := Int.neg_lt_tmod_of_pos x hy.1
  have hxs := i32_xor_sign hx (y := y) (by omega)
  refine AW_iload_n dJ9_floorMod_7cf53_0 rfl ?_
  refine AW_iload_n dJ9_floorMod_7cf53_1 rfl ?_
  refine AW_irem dJ9_floorMod_7cf53_2 (by omega) (by omega) (by omega) ?_
  refine AW_istore_n (i := 2) (lv' := [_, _, _]) dJ9_floorMod_7cf53_3 rfl (by decide) (Nat.le_of_ble_eq_true rfl) rfl ?_
  refine AW_iload_n dJ9_floorMod_7cf53_4 rfl ?_
  refine AW_iload_n dJ9_floorMod_7cf53_5 rfl ?_
  refine AW_ixor (z := (Int32.ofInt x ^^^ Int32.ofInt y).toInt) dJ9_floorMod_7cf53_6 (Int32.ofInt_toInt _).symm ?_
  have hxb := (Int32.ofInt x ^^^ Int32.ofInt y).toInt_lt
  have hxc := (Int32.ofInt x ^^^ Int32.ofInt y).le_toInt
  refine AW_if_ge 18 dJ9_floorMod_7cf53_7 (by decide) (by omega) (fun h7 => ?_) (fun h7 => ?_)
  · refine AW_iload_n dJ9_floorMod_7cf53_18 rfl ?_
    refine AW_iret dJ9_floorMod_7cf53_19 rfl ?_
    refine ⟨_, rfl, ?_, rfl⟩
    by_cases q : 0 ≤ x
    · exact tmod_pos q
    · rcases tmod_neg hy.1 (show x < 0 by omega) with ⟨q1, q2⟩ | ⟨q1, q2⟩ <;> omega
  · refine AW_iload_n dJ9_floorMod_7cf53_10 rfl ?_
    refine AW_if_eq 18 dJ9_floorMod_7cf53_11 (by decide) (by omega) (fun h11 => ?_) (fun h11 => ?_)
    · refine AW_iload_n dJ9_floorMod_7cf53_18 rfl ?_
      refine AW_iret dJ9_floorMod_7cf53_19 rfl ?_
      refine ⟨_, rfl, ?_, rfl⟩
      by_cases q : 0 ≤ x
      · exact tmod_pos q
      · rcases tmod_neg hy.1 (show x < 0 by omega) with ⟨q1, q2⟩ | ⟨q1, q2⟩ <;> omega
    · refine AW_iload_n dJ9_floorMod_7cf53_14 rfl ?_
      refine AW_iload_n dJ9_floorMod_7cf53_15 rfl ?_
      refine AW_iadd dJ9_floorMod_7cf53_16 ?_
      refine AW_iret dJ9_floorMod_7cf53_17 rfl ?_
      refine ⟨_, rfl, ?_, rfl⟩
      rcases tmod_neg hy.1 (show x < 0 by omega) with ⟨q1, q2⟩ | ⟨q1, q2⟩ <;> omega
theorem c_max {T : List am_C} {σ : am_S} {x y : Int} (hx : -2147483648 ≤ x ∧ x < 2147483648) (hy : -2147483648 ≤ y ∧ y < 2147483648) : Runs T mJ9_max_7cf53 [vI x, vI y] σ (QI (fun z σ' => z = max x y ∧ σ' = σ)) := by
  refine Runs.ofF (by decide +kernel) rfl (by simp) (Nat.le_of_ble_eq_true rfl) ?_
  show AW T mJ9_max_7cf53 0 [some (vI x), some (vI y)] [] σ _
  refine AW_iload_n dJ9_max_7cf53_0 rfl ?_
  refine AW_iload_n dJ9_max_7cf53_1 rfl ?_
  refine AW_icmp_lt 9 dJ9_max_7cf53_2 (by decide) (by omega) (by omega) (fun h2 => ?_) (fun h2 => ?_)
  · refine AW_iload_n dJ9_max_7cf53_9 rfl ?_
    refine AW_iret dJ9_max_7cf53_10 rfl ?_
    refine ⟨_, rfl, ?_, rfl⟩
    omega
  · refine AW_iload_n dJ9_max_7cf53_5 rfl ?_
    refine AW_goto (tgt := 10) dJ9_max_7cf53_6 (by decide) ?_
    refine AW_iret dJ9_max_7cf53_10 rfl ?_
    refine ⟨_, rfl, ?_, rfl⟩
    omega
theorem c_min {T : List am_C} {σ : am_S} {x y : Int} (hx : -2147483648 ≤ x ∧ x < 2147483648) (hy : -2147483648 ≤ y ∧ y < 2147483648) : Runs T mJ9_min_7cf53 [vI x, vI y] σ (QI (fun z σ' => z = min x y ∧ σ' = σ)) := by
  refine Runs.ofF (by decide +kernel) rfl (by simp) (Nat.le_of_ble_eq_true rfl) ?_
  show AW T mJ9_min_7cf53 0 [some (vI x), some (vI y)] [] σ _
  refine AW_iload_n dJ9_min_7cf53_0 rfl ?_
  refine AW_iload_n dJ9_min_7cf53_1 rfl ?_
  refine AW_icmp_gt 9 dJ9_min_7cf53_2 (by decide) (by omega) (by omega) (fun h2 => ?_) (fun h2 => ?_)
  · refine AW_iload_n dJ9_min_7cf53_9 rfl ?_
    refine AW_iret dJ9_min_7cf53_10 rfl ?_
    refine ⟨_, rfl, ?_, rfl⟩
    omega
  · refine AW_iload_n dJ9_min_7cf53_5 rfl ?_
    refine AW_goto (tgt := 10) dJ9_min_7cf53_6 (by decide) ?_
    refine AW_iret dJ9_min_7cf53_10 rfl ?_
    refine ⟨_, rfl, ?_, rfl⟩
    omega
theorem c_abs {T : List am_C} {σ : am_S} {x : Int} (hx : -2147483648 ≤ x ∧ x < 2147483648) : Runs T mJ9_abs_0f7a4 [vI x] σ (QI (fun z σ' => z = (x.natAbs : Int) ∧ σ' = σ)) := by
  refine Runs.ofF (by decide +kernel) rfl (by simp) (Nat.le_of_ble_eq_true rfl) ?_
  show AW T mJ9_abs_0f7a4 0 [some (vI x)] [] σ _
  refine AW_iload_n dJ9_abs_0f7a4_0 rfl ?_
  refine AW_if_ge 9 dJ9_abs_0f7a4_1 (by decide) (by omega) (fun h1 => ?_) (fun h1 => ?_)
  · refine AW_iload_n dJ9_abs_0f7a4_9 rfl ?_
    refine AW_iret dJ9_abs_0f7a4_10 rfl ?_
    refine ⟨_, rfl, ?_, rfl⟩
    omega
  · refine AW_iload_n dJ9_abs_0f7a4_4 rfl ?_
    refine AW_ineg dJ9_abs_0f7a4_5 ?_
    refine AW_goto (tgt := 10) dJ9_abs_0f7a4_6 (by decide) ?_
    refine AW_iret dJ9_abs_0f7a4_10 rfl ?_
    refine ⟨_, rfl, ?_, rfl⟩
    omega
/-- the class's ARMS are those of the row X -/
def AO (σ : am_S) (X : Row) : Prop := ∀ a, a < 4 → σ.1 14 a = X (6401 + a) ∧ σ.1 15 a = X (6405 + a) ∧ σ.1 16 a = X (6409 + a) ∧ σ.1 17 a = X (6413 + a) ∧ σ.1 18 a = X (6417 + a)
theorem l_othersReach {σ : am_S} {X : Row} (hAO : AO σ X) (hA : WA X) {arm fr ti : Int} (harm : -2147483648 ≤ arm ∧ arm < 2147483648) (hfr : -2147483648 ≤ fr ∧ fr < 2147483648) (hti : -2147483648 ≤ ti ∧ ti < 2147483648) : ∀ i : Nat, i ≤ 4 → hitN X arm fr ti i = false → AW am_tab mX0_othersReach 3 [some (vR 13), some (vI arm), some (vI fr), some (vI ti), some (vI (i : Nat))] [] σ (QB (hitN X arm fr ti 4 = true) σ) :=
  up_loop (fun i hi ih hi2 => by
    refine AW_iload dX0_othersReach_3 rfl ?_
    refine AW_iconst dX0_othersReach_5 ?_
    refine AW_icmp_ge 45 dX0_othersReach_6 (by decide) (by omega) (by omega) (fun h6 => ?_) (fun h6 => ?_)
    · refine AW_iconst dX0_othersReach_45 ?_
      refine AW_zret dX0_othersReach_46 rfl (by first | exact Or.inl rfl | exact Or.inr rfl) ?_
      have e : i = 4 := by omega
      subst e
      exact ⟨_, rfl, rfl, Or.inr ⟨rfl, by rw [hi2]; decide⟩⟩
    · have hb := hA.1 i (by omega)
      have ho := hAO i (by omega)
      refine AW_iload dX0_othersReach_9 rfl ?_
      refine AW_iload_n dX0_othersReach_11 rfl ?_
      refine AW_icmp_eq 39 dX0_othersReach_12 (by decide) (by omega) (by omega) (fun h12 => ?_) (fun h12 => ?_)
      · refine AW_iinc (lv' := [_, _, _, _, _]) dX0_othersReach_39 rfl (by decide) rfl ?_
        refine AW_goto (tgt := 3) dX0_othersReach_42 (by decide) ?_
        have e : hitN X arm fr ti (i + 1) = false := by
          simp only [hitN, hi2, Bool.false_or, decide_eq_false_iff_not]
          omega
        exact ih (by omega) e
      · refine AW_aload_n dX0_othersReach_15 rfl ?_
        refine AW_get dX0_othersReach_16 fX0_9 rfl rfl ?_
        refine AW_iload dX0_othersReach_19 rfl ?_
        refine AW_ialdN (j := i) dX0_othersReach_21 rfl (Nat.le_of_ble_eq_true rfl) (by omega) (by omega) ?_
        rw [ho.1]
        refine AW_iload_n dX0_othersReach_22 rfl ?_
        refine AW_icmp_gt 39 dX0_othersReach_23 (by decide) (by omega) (by omega) (fun h23 => ?_) (fun h23 => ?_)
        · refine AW_iinc (lv' := [_, _, _, _, _]) dX0_othersReach_39 rfl (by decide) rfl ?_
          refine AW_goto (tgt := 3) dX0_othersReach_42 (by decide) ?_
          have e : hitN X arm fr ti (i + 1) = false := by
            simp only [hitN, hi2, Bool.false_or, decide_eq_false_iff_not]
            omega
          exact ih (by omega) e
        · refine AW_iload_n dX0_othersReach_26 rfl ?_
          refine AW_aload_n dX0_othersReach_27 rfl ?_
          refine AW_get dX0_othersReach_28 fX0_15 rfl rfl ?_
          refine AW_iload dX0_othersReach_31 rfl ?_
          refine AW_ialdN (j := i) dX0_othersReach_33 rfl (Nat.le_of_ble_eq_true rfl) (by omega) (by omega) ?_
          rw [ho.2.1]
          refine AW_icmp_gt 39 dX0_othersReach_34 (by decide) (by omega) (by omega) (fun h34 => ?_) (fun h34 => ?_)
          · refine AW_iinc (lv' := [_, _, _, _, _]) dX0_othersReach_39 rfl (by decide) rfl ?_
            refine AW_goto (tgt := 3) dX0_othersReach_42 (by decide) ?_
            have e : hitN X arm fr ti (i + 1) = false := by
              simp only [hitN, hi2, Bool.false_or, decide_eq_false_iff_not]
              omega
            exact ih (by omega) e
          · refine AW_iconst dX0_othersReach_37 ?_
            refine AW_zret dX0_othersReach_38 rfl (by first | exact Or.inl rfl | exact Or.inr rfl) ?_
            exact ⟨_, rfl, rfl, Or.inl ⟨rfl, hitN_true (a := i) (by omega) 4 (by omega)⟩⟩)
theorem c_othersReach {σ : am_S} {X : Row} (hAO : AO σ X) (hA : WA X) {arm fr ti : Int} (harm : -2147483648 ≤ arm ∧ arm < 2147483648) (hfr : -2147483648 ≤ fr ∧ fr < 2147483648) (hti : -2147483648 ≤ ti ∧ ti < 2147483648) : Runs am_tab mX0_othersReach [vR 13, vI arm, vI fr, vI ti] σ (QB (hitN X arm fr ti 4 = true) σ) := by
  refine Runs.of (by decide) rfl (by simp) (Nat.le_of_ble_eq_true rfl) ?_
  show AW am_tab mX0_othersReach 0 [some (vR 13), some (vI arm), some (vI fr), some (vI ti), none] [] σ _
  refine AW_iconst dX0_othersReach_0 ?_
  refine AW_istore (lv' := [_, _, _, _, _]) dX0_othersReach_1 (by decide) (Nat.le_of_ble_eq_true rfl) rfl ?_
  exact l_othersReach hAO hA harm hfr hti 0 (by omega) rfl
theorem c_hasLane {σ : am_S} {X : Row} (hAO : AO σ X) (hA : WA X) {a : Nat} (ha : a < 4) {lane : Int} (hl : 0 ≤ lane ∧ lane ≤ 3) : Runs am_tab mX0_hasLane [vR 13, vI a, vI lane] σ (QB (X (6417 + a) / 2 ^ lane.toNat % 2 = 1) σ) := by
  refine Runs.of (by decide) rfl (by simp) (Nat.le_of_ble_eq_true rfl) ?_
  show AW am_tab mX0_hasLane 0 [some (vR 13), some (vI a), some (vI lane)] [] σ _
  have hb := hA.1 a ha
  have ho := hAO a ha
  have hd := div_pow_b lane.toNat hb.2.2.2
  have hd2 := Int.emod_two_eq (X (6417 + a) / 2 ^ lane.toNat)
  refine AW_aload_n dX0_hasLane_0 rfl ?_
  refine AW_get dX0_hasLane_1 fX0_24 rfl rfl ?_
  refine AW_iload_n dX0_hasLane_4 rfl ?_
  refine AW_ialdN (j := a) dX0_hasLane_5 rfl (Nat.le_of_ble_eq_true rfl) (by omega) (by omega) ?_
  rw [ho.2.2.2.2]
  refine AW_iload_n dX0_hasLane_6 rfl ?_
  refine AW_ishr (z := X (6417 + a) / 2 ^ lane.toNat) dX0_hasLane_7 (lane_shr' hb.2.2.2 hl) ?_
  refine AW_iconst dX0_hasLane_8 ?_
  refine AW_iand (z := X (6417 + a) / 2 ^ lane.toNat % 2) dX0_hasLane_9 (lane_and' hd) ?_
  refine AW_if_eq 17 dX0_hasLane_10 (by decide) (by omega) (fun h10 => ?_) (fun h10 => ?_)
  · refine AW_iconst dX0_hasLane_17 ?_
    refine AW_zret dX0_hasLane_18 rfl (by first | exact Or.inl rfl | exact Or.inr rfl) ?_
    exact ⟨_, rfl, rfl, by first | exact Or.inl ⟨rfl, by omega⟩ | exact Or.inr ⟨rfl, by omega⟩⟩
  · refine AW_iconst dX0_hasLane_13 ?_
    refine AW_goto (tgt := 18) dX0_hasLane_14 (by decide) ?_
    refine AW_zret dX0_hasLane_18 rfl (by first | exact Or.inl rfl | exact Or.inr rfl) ?_
    exact ⟨_, rfl, rfl, by first | exact Or.inl ⟨rfl, by omega⟩ | exact Or.inr ⟨rfl, by omega⟩⟩
theorem c_reaches {σ : am_S} {X : Row} (hAO : AO σ X) (hA : WA X) {a : Nat} (ha : a < 4) {p : Int} (hp : -2147483648 ≤ p ∧ p < 2147483648) : Runs am_tab mX0_reaches [vR 13, vI a, vI p] σ (QB (X (6401 + a) ≤ p ∧ p ≤ X (6405 + a)) σ) := by
  refine Runs.of (by decide) rfl (by simp) (Nat.le_of_ble_eq_true rfl) ?_
  show AW am_tab mX0_reaches 0 [some (vR 13), some (vI a), some (vI p)] [] σ _
  have hb := hA.1 a ha
  have ho := hAO a ha
  refine AW_iload_n dX0_reaches_0 rfl ?_
  refine AW_aload_n dX0_reaches_1 rfl ?_
  refine AW_get dX0_reaches_2 fX0_9 rfl rfl ?_
  refine AW_iload_n dX0_reaches_5 rfl ?_
  refine AW_ialdN (j := a) dX0_reaches_6 rfl (Nat.le_of_ble_eq_true rfl) (by omega) (by omega) ?_
  rw [ho.1]
  refine AW_aload_n dX0_reaches_7 rfl ?_
  refine AW_get dX0_reaches_8 fX0_15 rfl rfl ?_
  refine AW_iload_n dX0_reaches_11 rfl ?_
  refine AW_ialdN (j := a) dX0_reaches_12 rfl (Nat.le_of_ble_eq_true rfl) (by omega) (by omega) ?_
  rw [ho.2.1]
  refine AW_callSN (av := [_, _, _]) dX0_reaches_13 kX0_33 (fun U h => h.2) (am_fit_b rfl) rfl (Nat.le_of_ble_eq_true rfl) (c_isWithin (by omega) (by omega) (by omega)) (fun r σ' hq => ?_)
  obtain ⟨z, rfl, hq⟩ := hq
  show AW _ _ _ _ (vI z :: _) _ _
  obtain ⟨rfl, ⟨rfl, h13⟩ | ⟨rfl, h13⟩⟩ := hq
  · refine AW_zret dX0_reaches_16 rfl (by first | exact Or.inl rfl | exact Or.inr rfl) ?_
    exact ⟨_, rfl, rfl, by first | exact Or.inl ⟨rfl, by omega⟩ | exact Or.inr ⟨rfl, by omega⟩⟩
  · refine AW_zret dX0_reaches_16 rfl (by first | exact Or.inl rfl | exact Or.inr rfl) ?_
    exact ⟨_, rfl, rfl, by first | exact Or.inl ⟨rfl, by omega⟩ | exact Or.inr ⟨rfl, by omega⟩⟩
theorem c_beatFrom {σ : am_S} {X : Row} (hAO : AO σ X) (hA : WA X) {a : Nat} (ha : a < 4) {t : Int} (ht : -10000 ≤ t ∧ t ≤ 10000) : Runs am_tab mX0_beatFrom [vR 13, vI a, vI t] σ (QI (fun z σ' => z = t + (X (6413 + a) - t) % X (6409 + a) ∧ σ' = σ)) := by
  refine Runs.of (by decide) rfl (by simp) (Nat.le_of_ble_eq_true rfl) ?_
  show AW am_tab mX0_beatFrom 0 [some (vR 13), some (vI a), some (vI t), none] [] σ _
  have hb := hA.1 a ha
  have ho := hAO a ha
  have hmx : max 1 (X (6409 + a)) = X (6409 + a) := by omega
  refine AW_iconst dX0_beatFrom_0 ?_
  refine AW_aload_n dX0_beatFrom_1 rfl ?_
  refine AW_get dX0_beatFrom_2 fX0_18 rfl rfl ?_
  refine AW_iload_n dX0_beatFrom_5 rfl ?_
  refine AW_ialdN (j := a) dX0_beatFrom_6 rfl (Nat.le_of_ble_eq_true rfl) (by omega) (by omega) ?_
  rw [ho.2.2.1]
  refine AW_cSI2 dX0_beatFrom_7 kX0_41 (am_fit_b rfl) (Nat.le_of_ble_eq_true rfl) (c_max (by omega) (by omega)) (fun z σ' hq => ?_)
  obtain ⟨hz, hs⟩ := hq
  replace hz := hz.symm
  subst hz
  replace hs := hs.symm
  subst hs
  rw [hmx]
  refine AW_istore_n (i := 3) (lv' := [_, _, _, _]) dX0_beatFrom_10 rfl (by decide) (Nat.le_of_ble_eq_true rfl) rfl ?_
  refine AW_iload_n dX0_beatFrom_11 rfl ?_
  refine AW_aload_n dX0_beatFrom_12 rfl ?_
  refine AW_get dX0_beatFrom_13 fX0_21 rfl rfl ?_
  refine AW_iload_n dX0_beatFrom_16 rfl ?_
  refine AW_ialdN (j := a) dX0_beatFrom_17 rfl (Nat.le_of_ble_eq_true rfl) (by omega) (by omega) ?_
  rw [ho.2.2.2.1]
  refine AW_iload_n dX0_beatFrom_18 rfl ?_
  refine AW_isub dX0_beatFrom_19 ?_
  refine AW_iload_n dX0_beatFrom_20 rfl ?_
  refine AW_cSI2 dX0_beatFrom_21 kX0_46 (am_fit_b rfl) (Nat.le_of_ble_eq_true rfl) (c_floorMod (by omega) (by omega)) (fun z σ' hq => ?_)
  obtain ⟨hz, hs⟩ := hq
  replace hz := hz.symm
  subst hz
  replace hs := hs.symm
  subst hs
  refine AW_iadd dX0_beatFrom_24 ?_
  refine AW_iret dX0_beatFrom_25 rfl ?_
  exact ⟨_, rfl, rfl, rfl⟩
theorem c_beatTill {σ : am_S} {X : Row} (hAO : AO σ X) (hA : WA X) {a : Nat} (ha : a < 4) {t : Int} (ht : -10000 ≤ t ∧ t ≤ 10000) : Runs am_tab mX0_beatTill [vR 13, vI a, vI t] σ (QI (fun z σ' => z = t - (t - X (6413 + a)) % X (6409 + a) ∧ σ' = σ)) := by
  refine Runs.of (by decide) rfl (by simp) (Nat.le_of_ble_eq_true rfl) ?_
  show AW am_tab mX0_beatTill 0 [some (vR 13), some (vI a), some (vI t), none] [] σ _
  have hb := hA.1 a ha
  have ho := hAO a ha
  have hmx : max 1 (X (6409 + a)) = X (6409 + a) := by omega
  refine AW_iconst dX0_beatTill_0 ?_
  refine AW_aload_n dX0_beatTill_1 rfl ?_
  refine AW_get dX0_beatTill_2 fX0_18 rfl rfl ?_
  refine AW_iload_n dX0_beatTill_5 rfl ?_
  refine AW_ialdN (j := a) dX0_beatTill_6 rfl (Nat.le_of_ble_eq_true rfl) (by omega) (by omega) ?_
  rw [ho.2.2.1]
  refine AW_cSI2 dX0_beatTill_7 kX0_41 (am_fit_b rfl) (Nat.le_of_ble_eq_true rfl) (c_max (by omega) (by omega)) (fun z σ' hq => ?_)
  obtain ⟨hz, hs⟩ := hq
  replace hz := hz.symm
  subst hz
  replace hs := hs.symm
  subst hs
  rw [hmx]
  refine AW_istore_n (i := 3) (lv' := [_, _, _, _]) dX0_beatTill_10 rfl (by decide) (Nat.le_of_ble_eq_true rfl) rfl ?_
  refine AW_iload_n dX0_beatTill_11 rfl ?_
  refine AW_iload_n dX0_beatTill_12 rfl ?_
  refine AW_aload_n dX0_beatTill_13 rfl ?_
  refine AW_get dX0_beatTill_14 fX0_21 rfl rfl ?_
  refine AW_iload_n dX0_beatTill_17 rfl ?_
  refine AW_ialdN (j := a) dX0_beatTill_18 rfl (Nat.le_of_ble_eq_true rfl) (by omega) (by omega) ?_
  rw [ho.2.2.2.1]
  refine AW_isub dX0_beatTill_19 ?_
  refine AW_iload_n dX0_beatTill_20 rfl ?_
  refine AW_cSI2 dX0_beatTill_21 kX0_46 (am_fit_b rfl) (Nat.le_of_ble_eq_true rfl) (c_floorMod (by omega) (by omega)) (fun z σ' hq => ?_)
  obtain ⟨hz, hs⟩ := hq
  replace hz := hz.symm
  subst hz
  replace hs := hs.symm
  subst hs
  refine AW_isub dX0_beatTill_24 ?_
  refine AW_iret dX0_beatTill_25 rfl ?_
  exact ⟨_, rfl, rfl, rfl⟩
theorem c_hasBeatAt {σ : am_S} {X : Row} (hAO : AO σ X) (hA : WA X) {a : Nat} (ha : a < 4) {t : Int} (ht : -10000 ≤ t ∧ t ≤ 10000) : Runs am_tab mX0_hasBeatAt [vR 13, vI a, vI t] σ (QB ((X (6413 + a) - t) % X (6409 + a) = 0) σ) := by
  refine Runs.of (by decide) rfl (by simp) (Nat.le_of_ble_eq_true rfl) ?_
  show AW am_tab mX0_hasBeatAt 0 [some (vR 13), some (vI a), some (vI t)] [] σ _
  have hb := hA.1 a ha
  have ho := hAO a ha
  have hm1 := Int.emod_lt_of_pos (X (6413 + a) - t) (show 0 < X (6409 + a) by omega)
  have hm2 := Int.emod_nonneg (X (6413 + a) - t) (show X (6409 + a) ≠ 0 by omega)
  refine AW_aload_n dX0_hasBeatAt_0 rfl ?_
  refine AW_iload_n dX0_hasBeatAt_1 rfl ?_
  refine AW_iload_n dX0_hasBeatAt_2 rfl ?_
  refine AW_cVI2 dX0_hasBeatAt_3 kX0_37 (am_fit_b rfl) rfl rfl (Nat.le_of_ble_eq_true rfl) (c_beatFrom hAO hA ha ht) (fun z σ' hq => ?_)
  obtain ⟨hz, hs⟩ := hq
  replace hz := hz.symm
  subst hz
  replace hs := hs.symm
  subst hs
  refine AW_iload_n dX0_hasBeatAt_6 rfl ?_
  refine AW_icmp_ne 14 dX0_hasBeatAt_7 (by decide) (by omega) (by omega) (fun h7 => ?_) (fun h7 => ?_)
  · refine AW_iconst dX0_hasBeatAt_14 ?_
    refine AW_zret dX0_hasBeatAt_15 rfl (by first | exact Or.inl rfl | exact Or.inr rfl) ?_
    exact ⟨_, rfl, rfl, by first | exact Or.inl ⟨rfl, by omega⟩ | exact Or.inr ⟨rfl, by omega⟩⟩
  · refine AW_iconst dX0_hasBeatAt_10 ?_
    refine AW_goto (tgt := 15) dX0_hasBeatAt_11 (by decide) ?_
    refine AW_zret dX0_hasBeatAt_15 rfl (by first | exact Or.inl rfl | exact Or.inr rfl) ?_
    exact ⟨_, rfl, rfl, by first | exact Or.inl ⟨rfl, by omega⟩ | exact Or.inr ⟨rfl, by omega⟩⟩
theorem l_nextAlong {σ : am_S} {X : Row} (hAO : AO σ X) (hA : WA X) {p : Int} (hp : -2147483648 ≤ p ∧ p < 2147483648) : ∀ i : Nat, i ≤ 4 → ∀ z : Int, ((z = -1 ∧ ∀ b, b < i → X (6401 + b) ≤ p) ∨ ∃ a : Nat, z = a ∧ a < i ∧ p < X (6401 + a) ∧ ∀ b, b < i → p < X (6401 + b) → X (6401 + a) ≤ X (6401 + b)) → AW am_tab mX0_nextAlong 4 [some (vR 13), some (vI p), some (vI z), some (vI (i : Nat))] [] σ (QI (fun z σ' => σ = σ' ∧ ((z = -1 ∧ ∀ b, b < 4 → X (6401 + b) ≤ p) ∨ ∃ a : Nat, z = a ∧ a < 4 ∧ p < X (6401 + a) ∧ ∀ b, b < 4 → p < X (6401 + b) → X (6401 + a) ≤ X (6401 + b)))) :=
  up_loop (fun i hi ih z hz => by
    have hzb : -1 ≤ z ∧ z < 4 := by
      rcases hz with ⟨rfl, _⟩ | ⟨a, rfl, h, _⟩ <;> omega
    refine AW_iload_n dX0_nextAlong_4 rfl ?_
    refine AW_iconst dX0_nextAlong_5 ?_
    refine AW_icmp_ge 47 dX0_nextAlong_6 (by decide) (by omega) (by omega) (fun h6 => ?_) (fun h6 => ?_)
    · have e : i = 4 := by omega
      subst e
      refine AW_iload_n dX0_nextAlong_47 rfl ?_
      refine AW_iret dX0_nextAlong_48 rfl ?_
      exact ⟨_, rfl, rfl, hz⟩
    · have hb := hA.1 i (by omega)
      have ho := hAO i (by omega)
      refine AW_aload_n dX0_nextAlong_9 rfl ?_
      refine AW_get dX0_nextAlong_10 fX0_9 rfl rfl ?_
      refine AW_iload_n dX0_nextAlong_13 rfl ?_
      refine AW_ialdN (j := i) dX0_nextAlong_14 rfl (Nat.le_of_ble_eq_true rfl) (by omega) (by omega) ?_
      rw [ho.1]
      refine AW_iload_n dX0_nextAlong_15 rfl ?_
      refine AW_icmp_le 41 dX0_nextAlong_16 (by decide) (by omega) (by omega) (fun h16 => ?_) (fun h16 => ?_)
      · refine AW_iinc (lv' := [_, _, _, _]) dX0_nextAlong_41 rfl (by decide) rfl ?_
        refine AW_goto (tgt := 4) dX0_nextAlong_44 (by decide) ?_
        refine ih (by omega) z ?_
        rcases hz with ⟨h1, h2⟩ | ⟨a, h1, h2, h3, h4⟩
        · refine Or.inl ⟨h1, fun b hb2 => ?_⟩
          by_cases e : b = i
          · subst e; omega
          · exact h2 b (by omega)
        · refine Or.inr ⟨a, h1, by omega, h3, fun b hb2 hb3 => ?_⟩
          by_cases e : b = i
          · subst e; omega
          · exact h4 b (by omega) hb3
      · refine AW_iload_n dX0_nextAlong_19 rfl ?_
        refine AW_iconst dX0_nextAlong_20 ?_
        refine AW_icmp_eq 39 dX0_nextAlong_21 (by decide) (by omega) (by omega) (fun h21 => ?_) (fun h21 => ?_)
        · refine AW_iload_n dX0_nextAlong_39 rfl ?_
          refine AW_istore_n (i := 2) (lv' := [_, _, _, _]) dX0_nextAlong_40 rfl (by decide) (Nat.le_of_ble_eq_true rfl) rfl ?_
          refine AW_iinc (lv' := [_, _, _, _]) dX0_nextAlong_41 rfl (by decide) rfl ?_
          refine AW_goto (tgt := 4) dX0_nextAlong_44 (by decide) ?_
          refine ih (by omega) (i : Int) (Or.inr ⟨i, rfl, by omega, by omega, fun b hb2 hb3 => ?_⟩)
          rcases hz with ⟨h1, h2⟩ | ⟨a, h1, h2, h3, h4⟩
          · by_cases e : b = i
            · subst e; omega
            · have := h2 b (by omega); omega
          · omega
        · obtain ⟨a, hza, ha1, ha2, ha3⟩ : ∃ a : Nat, z = a ∧ a < i ∧ p < X (6401 + a) ∧ ∀ b, b < i → p < X (6401 + b) → X (6401 + a) ≤ X (6401 + b) := by
            rcases hz with ⟨rfl, _⟩ | h
            · exact absurd rfl h21
            · exact h
          subst hza
          have hoa := hAO a (by omega)
          have hba := hA.1 a (by omega)
          refine AW_aload_n dX0_nextAlong_24 rfl ?_
          refine AW_get dX0_nextAlong_25 fX0_9 rfl rfl ?_
          refine AW_iload_n dX0_nextAlong_28 rfl ?_
          refine AW_ialdN (j := i) dX0_nextAlong_29 rfl (Nat.le_of_ble_eq_true rfl) (by omega) (by omega) ?_
          rw [ho.1]
          refine AW_aload_n dX0_nextAlong_30 rfl ?_
          refine AW_get dX0_nextAlong_31 fX0_9 rfl rfl ?_
          refine AW_iload_n dX0_nextAlong_34 rfl ?_
          refine AW_ialdN (j := a) dX0_nextAlong_35 rfl (Nat.le_of_ble_eq_true rfl) (by omega) (by omega) ?_
          rw [hoa.1]
          refine AW_icmp_ge 41 dX0_nextAlong_36 (by decide) (by omega) (by omega) (fun h36 => ?_) (fun h36 => ?_)
          · refine AW_iinc (lv' := [_, _, _, _]) dX0_nextAlong_41 rfl (by decide) rfl ?_
            refine AW_goto (tgt := 4) dX0_nextAlong_44 (by decide) ?_
            refine ih (by omega) (a : Int) (Or.inr ⟨a, rfl, by omega, ha2, fun b hb2 hb3 => ?_⟩)
            by_cases e : b = i
            · subst e; omega
            · exact ha3 b (by omega) hb3
          · refine AW_iload_n dX0_nextAlong_39 rfl ?_
            refine AW_istore_n (i := 2) (lv' := [_, _, _, _]) dX0_nextAlong_40 rfl (by decide) (Nat.le_of_ble_eq_true rfl) rfl ?_
            refine AW_iinc (lv' := [_, _, _, _]) dX0_nextAlong_41 rfl (by decide) rfl ?_
            refine AW_goto (tgt := 4) dX0_nextAlong_44 (by decide) ?_
            refine ih (by omega) (i : Int) (Or.inr ⟨i, rfl, by omega, by omega, fun b hb2 hb3 => ?_⟩)
            by_cases e : b = i
            · subst e; omega
            · have := ha3 b (by omega) hb3; omega)
theorem c_nextAlong {σ : am_S} {X : Row} (hAO : AO σ X) (hA : WA X) {p : Int} (hp : -2147483648 ≤ p ∧ p < 2147483648) : Runs am_tab mX0_nextAlong [vR 13, vI p] σ (QI (fun z σ' => σ = σ' ∧ ((z = -1 ∧ ∀ b, b < 4 → X (6401 + b) ≤ p) ∨ ∃ a : Nat, z = a ∧ a < 4 ∧ p < X (6401 + a) ∧ ∀ b, b < 4 → p < X (6401 + b) → X (6401 + a) ≤ X (6401 + b)))) := by
  refine Runs.of (by decide) rfl (by simp) (Nat.le_of_ble_eq_true rfl) ?_
  show AW am_tab mX0_nextAlong 0 [some (vR 13), some (vI p), none, none] [] σ _
  refine AW_iconst dX0_nextAlong_0 ?_
  refine AW_istore_n (i := 2) (lv' := [_, _, _, _]) dX0_nextAlong_1 rfl (by decide) (Nat.le_of_ble_eq_true rfl) rfl ?_
  refine AW_iconst dX0_nextAlong_2 ?_
  refine AW_istore_n (i := 3) (lv' := [_, _, _, _]) dX0_nextAlong_3 rfl (by decide) (Nat.le_of_ble_eq_true rfl) rfl ?_
  exact l_nextAlong hAO hA hp 0 (by omega) (-1) (Or.inl ⟨rfl, fun b hb => by omega⟩)
