-- ===== State(), BeltArms() =====
def PSt (σ : am_S) : Prop := σ.1 0 3 = 3 ∧ σ.1 0 4 = 2 ∧ PB (shS σ 1) ∧ PTh (shS σ 5) ∧ PAr (shS σ 11)
def PX0 (σ : am_S) : Prop := σ.1 0 2 = 0 ∧ σ.1 0 6 = 1 ∧ PSt (shS σ 2)
theorem lkX3_11 : Cond.methodLink RX3 11 yX1_init ∈ am_tb := (in_tb 66 (by decide +kernel) rfl)
theorem stS_eq {Y : ct_Y} {h0 : Nat} {f1 f2 f3 : Nat → Nat} {σ1 σ2 σ3 : am_S} : (((([(h0, .inr (3, [.ref (f1 0), .ref (f2 0), .ref (f3 0), .int (Int32.ofInt 3), .int (Int32.ofInt 2)]))] : va_W) ++ am_ws TB (f1, Y) σ1) ++ am_ws TT (f2, Y) σ2) ++ am_ws TA (f3, Y) σ3) = am_ws TS (c1 1 (fun _ => h0) (c1 4 f1 (c1 6 f2 f3)), Y) (cS 1 (sR [rup (rup zR 3 3) 4 2]) (cS 4 σ1 (cS 6 σ2 σ3))) := by
  have e1 : am_ws (TT ++ tsh 6 TA) (c1 6 f2 f3, Y) (cS 6 σ2 σ3) = am_ws TT (f2, Y) σ2 ++ am_ws TA (f3, Y) σ3 := am_ws_c1 (T1 := TT) (T2 := TA) TT_cl
  have e2 : am_ws (TB ++ tsh 4 (TT ++ tsh 6 TA)) (c1 4 f1 (c1 6 f2 f3), Y) (cS 4 σ1 (cS 6 σ2 σ3)) = am_ws TB (f1, Y) σ1 ++ am_ws (TT ++ tsh 6 TA) (c1 6 f2 f3, Y) (cS 6 σ2 σ3) := am_ws_c1 (T1 := TB) (T2 := TT ++ tsh 6 TA) TB_cl
  have e3 : am_ws TS (c1 1 (fun _ => h0) (c1 4 f1 (c1 6 f2 f3)), Y) (cS 1 (sR [rup (rup zR 3 3) 4 2]) (cS 4 σ1 (cS 6 σ2 σ3))) = am_ws TS1 (c1 1 (fun _ => h0) (c1 4 f1 (c1 6 f2 f3)), Y) (cS 1 (sR [rup (rup zR 3 3) 4 2]) (cS 4 σ1 (cS 6 σ2 σ3))) ++ am_ws (TB ++ tsh 4 (TT ++ tsh 6 TA)) (c1 4 f1 (c1 6 f2 f3), Y) (cS 4 σ1 (cS 6 σ2 σ3)) := am_ws_top (T1 := TS1) (T2 := TB ++ tsh 4 (TT ++ tsh 6 TA))
  have e0 : am_ws TS1 (c1 1 (fun _ => h0) (c1 4 f1 (c1 6 f2 f3)), Y) (cS 1 (sR [rup (rup zR 3 3) 4 2]) (cS 4 σ1 (cS 6 σ2 σ3))) = [(h0, .inr (3, [.ref (f1 0), .ref (f2 0), .ref (f3 0), .int (Int32.ofInt 3), .int (Int32.ofInt 2)]))] := by
    simp only [am_ws, TS1, List.mapIdx_cons, List.mapIdx_nil]
    rfl
  rw [e3, e0, e2, e1, List.append_assoc, List.append_assoc]
theorem ts_at {L : va_W} {f : Nat → Nat} {Y : ct_Y} {σ : am_S} : ∃ vs, (L ++ am_ws TS (f, Y) σ)[L.length]? = some (f 0, .inr (3, vs)) := by
  have h := am_ws_get (T := TS) (E := (f, Y)) (σ := σ) (k := 0) (c := .inl (3, [some 1, some 5, some 11, none, none])) rfl
  have e : (L ++ am_ws TS (f, Y) σ)[L.length]? = (am_ws TS (f, Y) σ)[0]? := by rw [List.getElem?_append_right (Nat.le_refl _), Nat.sub_self]
  exact ⟨_, e.trans h⟩
theorem xxA_eq {Y : ct_Y} {h0 qa : Nat} {f1 f2 f3 f4 f5 f6 : Nat → Nat} {τ : am_S} : am_ws TX1' (c1 2 (lR [h0, qa] 0) (c1 17 f1 (c1 17 f2 (c1 17 f3 (c1 7 f4 (c1 7 f5 f6))))), Y) (cS 2 (sR [rup zR 6 1, zR]) τ) = [(h0, .inr (6, [.ref (f1 0), .ref qa, .int (Int32.ofInt 0), .ref (f4 0), .ref (f5 0), .ref (f6 0), .int (Int32.ofInt 1)])), (qa, .inl (Y.2 3, 2, .inr (.inr (.inr (.inr (va_up (va_up (fun _ => none) 0 (some (f2 0))) 1 (some (f3 0))))))))] := by
  have hv : (va_up (va_up (fun _ => none) 0 (some (f2 0))) 1 (some (f3 0))) = fun j : Nat => (([19, 36] : List Nat)[j]?).map (c1 2 (lR [h0, qa] 0) (c1 17 f1 (c1 17 f2 (c1 17 f3 (c1 7 f4 (c1 7 f5 f6)))))) := by
    funext j
    match j with
    | 0 => rfl
    | 1 => rfl
    | j + 2 => simp [va_up]
  rw [hv]
  simp only [am_ws, TX1', List.mapIdx_cons, List.mapIdx_nil]
  rfl
theorem xx_eq {Y : ct_Y} {h0 qa : Nat} {f1 f2 f3 f4 f5 f6 : Nat → Nat} {σ1 σ2 σ3 σ4 σ5 σ6 : am_S} : ((((((([(h0, .inr (6, [.ref (f1 0), .ref qa, .int (Int32.ofInt 0), .ref (f4 0), .ref (f5 0), .ref (f6 0), .int (Int32.ofInt 1)])), (qa, .inl (Y.2 3, 2, .inr (.inr (.inr (.inr (va_up (va_up (fun _ => none) 0 (some (f2 0))) 1 (some (f3 0))))))))] : va_W) ++ am_ws TS (f1, Y) σ1) ++ am_ws TS (f2, Y) σ2) ++ am_ws TS (f3, Y) σ3) ++ am_ws TP (f4, Y) σ4) ++ am_ws TP (f5, Y) σ5) ++ am_ws TR (f6, Y) σ6) = am_ws TXX (c1 2 (lR [h0, qa] 0) (c1 17 f1 (c1 17 f2 (c1 17 f3 (c1 7 f4 (c1 7 f5 f6))))), Y) (cS 2 (sR [rup zR 6 1, zR]) (cS 17 σ1 (cS 17 σ2 (cS 17 σ3 (cS 7 σ4 (cS 7 σ5 σ6)))))) := by
  have e6 : am_ws (TP ++ tsh 7 TR) (c1 7 f5 f6, Y) (cS 7 σ5 σ6) = am_ws TP (f5, Y) σ5 ++ am_ws TR (f6, Y) σ6 := am_ws_c1 (T1 := TP) (T2 := TR) TP_cl
  have e5 : am_ws (TP ++ tsh 7 (TP ++ tsh 7 TR)) (c1 7 f4 (c1 7 f5 f6), Y) (cS 7 σ4 (cS 7 σ5 σ6)) = am_ws TP (f4, Y) σ4 ++ am_ws (TP ++ tsh 7 TR) (c1 7 f5 f6, Y) (cS 7 σ5 σ6) := am_ws_c1 (T1 := TP) (T2 := TP ++ tsh 7 TR) TP_cl
  have e4 : am_ws (TS ++ tsh 17 (TP ++ tsh 7 (TP ++ tsh 7 TR))) (c1 17 f3 (c1 7 f4 (c1 7 f5 f6)), Y) (cS 17 σ3 (cS 7 σ4 (cS 7 σ5 σ6))) = am_ws TS (f3, Y) σ3 ++ am_ws (TP ++ tsh 7 (TP ++ tsh 7 TR)) (c1 7 f4 (c1 7 f5 f6), Y) (cS 7 σ4 (cS 7 σ5 σ6)) := am_ws_c1 (T1 := TS) (T2 := TP ++ tsh 7 (TP ++ tsh 7 TR)) TS_cl
  have e3 : am_ws (TS ++ tsh 17 (TS ++ tsh 17 (TP ++ tsh 7 (TP ++ tsh 7 TR)))) (c1 17 f2 (c1 17 f3 (c1 7 f4 (c1 7 f5 f6))), Y) (cS 17 σ2 (cS 17 σ3 (cS 7 σ4 (cS 7 σ5 σ6)))) = am_ws TS (f2, Y) σ2 ++ am_ws (TS ++ tsh 17 (TP ++ tsh 7 (TP ++ tsh 7 TR))) (c1 17 f3 (c1 7 f4 (c1 7 f5 f6)), Y) (cS 17 σ3 (cS 7 σ4 (cS 7 σ5 σ6))) := am_ws_c1 (T1 := TS) (T2 := TS ++ tsh 17 (TP ++ tsh 7 (TP ++ tsh 7 TR))) TS_cl
  have e2 : am_ws (TS ++ tsh 17 (TS ++ tsh 17 (TS ++ tsh 17 (TP ++ tsh 7 (TP ++ tsh 7 TR))))) (c1 17 f1 (c1 17 f2 (c1 17 f3 (c1 7 f4 (c1 7 f5 f6)))), Y) (cS 17 σ1 (cS 17 σ2 (cS 17 σ3 (cS 7 σ4 (cS 7 σ5 σ6))))) = am_ws TS (f1, Y) σ1 ++ am_ws (TS ++ tsh 17 (TS ++ tsh 17 (TP ++ tsh 7 (TP ++ tsh 7 TR)))) (c1 17 f2 (c1 17 f3 (c1 7 f4 (c1 7 f5 f6))), Y) (cS 17 σ2 (cS 17 σ3 (cS 7 σ4 (cS 7 σ5 σ6)))) := am_ws_c1 (T1 := TS) (T2 := TS ++ tsh 17 (TS ++ tsh 17 (TP ++ tsh 7 (TP ++ tsh 7 TR)))) TS_cl
  have e1 : am_ws TXX (c1 2 (lR [h0, qa] 0) (c1 17 f1 (c1 17 f2 (c1 17 f3 (c1 7 f4 (c1 7 f5 f6))))), Y) (cS 2 (sR [rup zR 6 1, zR]) (cS 17 σ1 (cS 17 σ2 (cS 17 σ3 (cS 7 σ4 (cS 7 σ5 σ6)))))) = am_ws TX1' (c1 2 (lR [h0, qa] 0) (c1 17 f1 (c1 17 f2 (c1 17 f3 (c1 7 f4 (c1 7 f5 f6))))), Y) (cS 2 (sR [rup zR 6 1, zR]) (cS 17 σ1 (cS 17 σ2 (cS 17 σ3 (cS 7 σ4 (cS 7 σ5 σ6)))))) ++ am_ws (TS ++ tsh 17 (TS ++ tsh 17 (TS ++ tsh 17 (TP ++ tsh 7 (TP ++ tsh 7 TR))))) (c1 17 f1 (c1 17 f2 (c1 17 f3 (c1 7 f4 (c1 7 f5 f6)))), Y) (cS 17 σ1 (cS 17 σ2 (cS 17 σ3 (cS 7 σ4 (cS 7 σ5 σ6))))) := am_ws_top (T1 := TX1') (T2 := TS ++ tsh 17 (TS ++ tsh 17 (TS ++ tsh 17 (TP ++ tsh 7 (TP ++ tsh 7 TR)))))
  rw [e1, xxA_eq, e2, e3, e4, e5, e6, List.append_assoc, List.append_assoc, List.append_assoc, List.append_assoc, List.append_assoc]
theorem nX3 : Ctor mX3_init 3 [.null, .null, .null, .int 0, .int 0] TS PSt := by
  refine Ctor.of (by decide) rfl (Nat.le_of_ble_eq_true rfl) (fun Y h0 => ?_)
  refine GW_aload 0 dX3_init_0 rfl rfl ?_
  refine GW_obj dX3_init_1 oiX3 oi_2 oi_3 (Nat.le_of_ble_eq_true rfl) (Nat.le_of_ble_eq_true rfl) ?_
  refine GW_aload 0 dX3_init_4 rfl rfl ?_
  refine GW_new [.int 0, .int 0, .null, .null, .null] dX3_init_5 (Cn := RX1) (T := TX1) (N := 5) (ty := tyX1) (ci := 1) rfl wtX1 tyX1_ok lkX3_9 inX1 iiX1 (fun j hj => by rcases (show j = 0 ∨ j = 1 ∨ j = 2 ∨ j = 3 ∨ j = 4 by omega) with rfl | rfl | rfl | rfl | rfl <;> rfl) (Nat.le_of_ble_eq_true rfl) (Nat.le_of_ble_eq_true rfl) (fun w1 => ?_)
  refine GW_dup dX3_init_8 ?_
  refine GW_init (y := mX1_init) (host := "BeltArms") dX3_init_9 (Or.inl lkX3_11) clX1 ⟨rfl, rfl, (Nat.le_of_ble_eq_true rfl), (Nat.le_of_ble_eq_true rfl), (Nat.le_of_ble_eq_true rfl), (Nat.le_of_ble_eq_true rfl)⟩ (Nat.le_of_ble_eq_true rfl) nX1 (fun f1 σ1 hf1 hσ1 => ?_)
  subst hf1
  refine GW_putF 0 dX3_init_12 qX3_12 rfl rfl rfl (Nat.le_of_ble_eq_true rfl) ?_
  refine GW_eq (ws' := ([(h0, .inr (3, [.ref (f1 0), .null, .null, .int 0, .int 0]))] ++ am_ws TB (f1, Y) σ1)) rfl ?_
  refine GW_aload 0 dX3_init_15 rfl rfl ?_
  refine GW_new [.int 0, .null, .null, .null, .null, .null] dX3_init_16 (Cn := RX4) (T := TX4) (N := 6) (ty := tyX4) (ci := 4) rfl wtX4 tyX4_ok lkX3_18 inX4 iiX4 (fun j hj => by rcases (show j = 0 ∨ j = 1 ∨ j = 2 ∨ j = 3 ∨ j = 4 ∨ j = 5 by omega) with rfl | rfl | rfl | rfl | rfl | rfl <;> rfl) (Nat.le_of_ble_eq_true rfl) (Nat.le_of_ble_eq_true rfl) (fun w2 => ?_)
  refine GW_dup dX3_init_19 ?_
  refine GW_init (y := mX4_init) (host := "BeltArms") dX3_init_20 (Or.inr (fun U h => h.2.2.2.1)) clX4 ⟨rfl, rfl, (Nat.le_of_ble_eq_true rfl), (Nat.le_of_ble_eq_true rfl), (Nat.le_of_ble_eq_true rfl), (Nat.le_of_ble_eq_true rfl)⟩ (Nat.le_of_ble_eq_true rfl) nX4 (fun f2 σ2 hf2 hσ2 => ?_)
  subst hf2
  refine GW_putF 0 dX3_init_23 qX3_21 rfl rfl rfl (Nat.le_of_ble_eq_true rfl) ?_
  refine GW_eq (ws' := (([(h0, .inr (3, [.ref (f1 0), .ref (f2 0), .null, .int 0, .int 0]))] ++ am_ws TB (f1, Y) σ1) ++ am_ws TT (f2, Y) σ2)) rfl ?_
  refine GW_aload 0 dX3_init_26 rfl rfl ?_
  refine GW_new [.null, .null, .null, .null, .null] dX3_init_27 (Cn := RX0) (T := TX0) (N := 5) (ty := tyX0) (ci := 0) rfl wtX0 tyX0_ok lkX3_25 inX0 iiX0 (fun j hj => by rcases (show j = 0 ∨ j = 1 ∨ j = 2 ∨ j = 3 ∨ j = 4 by omega) with rfl | rfl | rfl | rfl | rfl <;> rfl) (Nat.le_of_ble_eq_true rfl) (Nat.le_of_ble_eq_true rfl) (fun w3 => ?_)
  refine GW_dup dX3_init_30 ?_
  refine GW_init (y := mX0_init) (host := "BeltArms") dX3_init_31 (Or.inr (fun U h => h.2.2.2.2.1)) clX0 ⟨rfl, rfl, (Nat.le_of_ble_eq_true rfl), (Nat.le_of_ble_eq_true rfl), (Nat.le_of_ble_eq_true rfl), (Nat.le_of_ble_eq_true rfl)⟩ (Nat.le_of_ble_eq_true rfl) nX0 (fun f3 σ3 hf3 hσ3 => ?_)
  subst hf3
  refine GW_putF 0 dX3_init_34 qX3_28 rfl rfl rfl (Nat.le_of_ble_eq_true rfl) ?_
  refine GW_eq (ws' := ((([(h0, .inr (3, [.ref (f1 0), .ref (f2 0), .ref (f3 0), .int 0, .int 0]))] ++ am_ws TB (f1, Y) σ1) ++ am_ws TT (f2, Y) σ2) ++ am_ws TA (f3, Y) σ3)) rfl ?_
  refine GW_aload 0 dX3_init_37 rfl rfl ?_
  refine GW_iconst dX3_init_38 ?_
  refine GW_put 0 dX3_init_39 pX3_32 rfl rfl rfl (Nat.le_of_ble_eq_true rfl) ?_
  refine GW_eq (ws' := ((([(h0, .inr (3, [.ref (f1 0), .ref (f2 0), .ref (f3 0), .int (Int32.ofInt 3), .int 0]))] ++ am_ws TB (f1, Y) σ1) ++ am_ws TT (f2, Y) σ2) ++ am_ws TA (f3, Y) σ3)) rfl ?_
  refine GW_aload 0 dX3_init_42 rfl rfl ?_
  refine GW_iconst dX3_init_43 ?_
  refine GW_put 0 dX3_init_44 pX3_36 rfl rfl rfl (Nat.le_of_ble_eq_true rfl) ?_
  refine GW_eq (ws' := ((([(h0, .inr (3, [.ref (f1 0), .ref (f2 0), .ref (f3 0), .int (Int32.ofInt 3), .int (Int32.ofInt 2)]))] ++ am_ws TB (f1, Y) σ1) ++ am_ws TT (f2, Y) σ2) ++ am_ws TA (f3, Y) σ3)) rfl ?_
  refine GW_ret dX3_init_47 rfl (Nat.le_of_ble_eq_true rfl) (Nat.le_of_ble_eq_true rfl) ⟨_, _, rfl, stS_eq, ?_⟩
  exact ⟨rfl, rfl, ⟨hσ1.1, hσ1.2.1, hσ1.2.2.1, hσ1.2.2.2⟩, hσ2, fun a ha => hσ3 a ha⟩
theorem nX6 : Ctor mX6_init 6 [.null, .null, .int 0, .null, .null, .null, .int 0] TXX PX0 := by
  refine Ctor.of (by decide) rfl (Nat.le_of_ble_eq_true rfl) (fun Y h0 => ?_)
  refine GW_aload 0 dX6_init_0 rfl rfl ?_
  refine GW_obj dX6_init_1 oiX6 oi_2 oi_3 (Nat.le_of_ble_eq_true rfl) (Nat.le_of_ble_eq_true rfl) ?_
  refine GW_aload 0 dX6_init_4 rfl rfl ?_
  refine GW_new [.null, .null, .null, .int 0, .int 0] dX6_init_5 (Cn := RX3) (T := TX3) (N := 5) (ty := tyX3) (ci := 3) rfl wtX3 tyX3_ok lkX6_9 inX3 iiX3 (fun j hj => by rcases (show j = 0 ∨ j = 1 ∨ j = 2 ∨ j = 3 ∨ j = 4 by omega) with rfl | rfl | rfl | rfl | rfl <;> rfl) (Nat.le_of_ble_eq_true rfl) (Nat.le_of_ble_eq_true rfl) (fun w1 => ?_)
  refine GW_dup dX6_init_8 ?_
  refine GW_init (y := mX3_init) (host := "BeltArms") dX6_init_9 (Or.inr (fun U h => h.2.2.1)) clX3 ⟨rfl, rfl, (Nat.le_of_ble_eq_true rfl), (Nat.le_of_ble_eq_true rfl), (Nat.le_of_ble_eq_true rfl), (Nat.le_of_ble_eq_true rfl)⟩ (Nat.le_of_ble_eq_true rfl) nX3 (fun f1 σ1 hf1 hσ1 => ?_)
  subst hf1
  refine GW_putF 0 dX6_init_12 qX6_12 rfl rfl rfl (Nat.le_of_ble_eq_true rfl) ?_
  refine GW_eq (ws' := ([(h0, .inr (6, [.ref (f1 0), .null, .int 0, .null, .null, .null, .int 0]))] ++ am_ws TS (f1, Y) σ1)) rfl ?_
  refine GW_aload 0 dX6_init_15 rfl rfl ?_
  refine GW_iconst dX6_init_16 ?_
  refine GW_newq (N := 2) dX6_init_17 lkX6_9 rfl (Nat.le_of_ble_eq_true rfl) (Nat.le_of_ble_eq_true rfl) (Nat.le_of_ble_eq_true rfl) (Nat.le_of_ble_eq_true rfl) (fun qa => ?_)
  refine GW_swap ?_
  refine GW_eq (ws' := ([(h0, .inr (6, [.ref (f1 0), .null, .int 0, .null, .null, .null, .int 0])), (qa, .inl (Y.2 3, 2, .inr (.inr (.inr (.inr (fun _ => none))))))] ++ am_ws TS (f1, Y) σ1)) rfl ?_
  refine GW_dup dX6_init_20 ?_
  refine GW_iconst dX6_init_21 ?_
  refine GW_new [.null, .null, .null, .int 0, .int 0] dX6_init_22 (Cn := RX3) (T := TX3) (N := 5) (ty := tyX3) (ci := 3) rfl wtX3 tyX3_ok lkX6_9 inX3 iiX3 (fun j hj => by rcases (show j = 0 ∨ j = 1 ∨ j = 2 ∨ j = 3 ∨ j = 4 by omega) with rfl | rfl | rfl | rfl | rfl <;> rfl) (Nat.le_of_ble_eq_true rfl) (Nat.le_of_ble_eq_true rfl) (fun w2 => ?_)
  refine GW_dup dX6_init_25 ?_
  refine GW_init (y := mX3_init) (host := "BeltArms") dX6_init_26 (Or.inr (fun U h => h.2.2.1)) clX3 ⟨rfl, rfl, (Nat.le_of_ble_eq_true rfl), (Nat.le_of_ble_eq_true rfl), (Nat.le_of_ble_eq_true rfl), (Nat.le_of_ble_eq_true rfl)⟩ (Nat.le_of_ble_eq_true rfl) nX3 (fun f2 σ2 hf2 hσ2 => ?_)
  subst hf2
  obtain ⟨vs2, hvs2⟩ := ts_at (L := ([(h0, .inr (6, [.ref (f1 0), .null, .int 0, .null, .null, .null, .int 0])), (qa, .inl (Y.2 3, 2, .inr (.inr (.inr (.inr (fun _ => none))))))] ++ am_ws TS (f1, Y) σ1)) (f := f2) (Y := Y) (σ := σ2)
  refine GW_aast (i := 0) 1 _ dX6_init_29 rfl hvs2 rfl (Nat.le_of_ble_eq_true rfl) (Nat.le_of_ble_eq_true rfl) ?_
  refine GW_eq (ws' := (([(h0, .inr (6, [.ref (f1 0), .null, .int 0, .null, .null, .null, .int 0])), (qa, .inl (Y.2 3, 2, .inr (.inr (.inr (.inr (va_up (fun _ => none) 0 (some (f2 0))))))))] ++ am_ws TS (f1, Y) σ1) ++ am_ws TS (f2, Y) σ2)) rfl ?_
  refine GW_dup dX6_init_30 ?_
  refine GW_iconst dX6_init_31 ?_
  refine GW_new [.null, .null, .null, .int 0, .int 0] dX6_init_32 (Cn := RX3) (T := TX3) (N := 5) (ty := tyX3) (ci := 3) rfl wtX3 tyX3_ok lkX6_9 inX3 iiX3 (fun j hj => by rcases (show j = 0 ∨ j = 1 ∨ j = 2 ∨ j = 3 ∨ j = 4 by omega) with rfl | rfl | rfl | rfl | rfl <;> rfl) (Nat.le_of_ble_eq_true rfl) (Nat.le_of_ble_eq_true rfl) (fun w3 => ?_)
  refine GW_dup dX6_init_35 ?_
  refine GW_init (y := mX3_init) (host := "BeltArms") dX6_init_36 (Or.inr (fun U h => h.2.2.1)) clX3 ⟨rfl, rfl, (Nat.le_of_ble_eq_true rfl), (Nat.le_of_ble_eq_true rfl), (Nat.le_of_ble_eq_true rfl), (Nat.le_of_ble_eq_true rfl)⟩ (Nat.le_of_ble_eq_true rfl) nX3 (fun f3 σ3 hf3 hσ3 => ?_)
  subst hf3
  obtain ⟨vs3, hvs3⟩ := ts_at (L := (([(h0, .inr (6, [.ref (f1 0), .null, .int 0, .null, .null, .null, .int 0])), (qa, .inl (Y.2 3, 2, .inr (.inr (.inr (.inr (va_up (fun _ => none) 0 (some (f2 0))))))))] ++ am_ws TS (f1, Y) σ1) ++ am_ws TS (f2, Y) σ2)) (f := f3) (Y := Y) (σ := σ3)
  refine GW_aast (i := 1) 1 _ dX6_init_39 rfl hvs3 rfl (Nat.le_of_ble_eq_true rfl) (Nat.le_of_ble_eq_true rfl) ?_
  refine GW_eq (ws' := ((([(h0, .inr (6, [.ref (f1 0), .null, .int 0, .null, .null, .null, .int 0])), (qa, .inl (Y.2 3, 2, .inr (.inr (.inr (.inr (va_up (va_up (fun _ => none) 0 (some (f2 0))) 1 (some (f3 0))))))))] ++ am_ws TS (f1, Y) σ1) ++ am_ws TS (f2, Y) σ2) ++ am_ws TS (f3, Y) σ3)) rfl ?_
  refine GW_putF 0 dX6_init_40 qX6_16 rfl rfl rfl (Nat.le_of_ble_eq_true rfl) ?_
  refine GW_eq (ws' := ((([(h0, .inr (6, [.ref (f1 0), .ref qa, .int 0, .null, .null, .null, .int 0])), (qa, .inl (Y.2 3, 2, .inr (.inr (.inr (.inr (va_up (va_up (fun _ => none) 0 (some (f2 0))) 1 (some (f3 0))))))))] ++ am_ws TS (f1, Y) σ1) ++ am_ws TS (f2, Y) σ2) ++ am_ws TS (f3, Y) σ3)) rfl ?_
  refine GW_aload 0 dX6_init_43 rfl rfl ?_
  refine GW_iconst dX6_init_44 ?_
  refine GW_put 0 dX6_init_45 pX6_20 rfl rfl rfl (Nat.le_of_ble_eq_true rfl) ?_
  refine GW_eq (ws' := ((([(h0, .inr (6, [.ref (f1 0), .ref qa, .int (Int32.ofInt 0), .null, .null, .null, .int 0])), (qa, .inl (Y.2 3, 2, .inr (.inr (.inr (.inr (va_up (va_up (fun _ => none) 0 (some (f2 0))) 1 (some (f3 0))))))))] ++ am_ws TS (f1, Y) σ1) ++ am_ws TS (f2, Y) σ2) ++ am_ws TS (f3, Y) σ3)) rfl ?_
  refine GW_aload 0 dX6_init_48 rfl rfl ?_
  refine GW_new [.int 0, .int 0, .null, .null, .null, .null, .null, .null, .int 0, .int 0, .int 0] dX6_init_49 (Cn := RX2) (T := TX2) (N := 11) (ty := tyX2) (ci := 2) rfl wtX2 tyX2_ok lkX6_24 inX2 iiX2 (fun j hj => by rcases (show j = 0 ∨ j = 1 ∨ j = 2 ∨ j = 3 ∨ j = 4 ∨ j = 5 ∨ j = 6 ∨ j = 7 ∨ j = 8 ∨ j = 9 ∨ j = 10 by omega) with rfl | rfl | rfl | rfl | rfl | rfl | rfl | rfl | rfl | rfl | rfl <;> rfl) (Nat.le_of_ble_eq_true rfl) (Nat.le_of_ble_eq_true rfl) (fun w4 => ?_)
  refine GW_dup dX6_init_52 ?_
  refine GW_init (y := mX2_init) (host := "BeltArms") dX6_init_53 (Or.inr (fun U h => h.2.2.2.2.2.1)) clX2 ⟨rfl, rfl, (Nat.le_of_ble_eq_true rfl), (Nat.le_of_ble_eq_true rfl), (Nat.le_of_ble_eq_true rfl), (Nat.le_of_ble_eq_true rfl)⟩ (Nat.le_of_ble_eq_true rfl) nX2 (fun f4 σ4 hf4 hσ4 => ?_)
  subst hf4
  refine GW_putF 0 dX6_init_56 qX6_27 rfl rfl rfl (Nat.le_of_ble_eq_true rfl) ?_
  refine GW_eq (ws' := (((([(h0, .inr (6, [.ref (f1 0), .ref qa, .int (Int32.ofInt 0), .ref (f4 0), .null, .null, .int 0])), (qa, .inl (Y.2 3, 2, .inr (.inr (.inr (.inr (va_up (va_up (fun _ => none) 0 (some (f2 0))) 1 (some (f3 0))))))))] ++ am_ws TS (f1, Y) σ1) ++ am_ws TS (f2, Y) σ2) ++ am_ws TS (f3, Y) σ3) ++ am_ws TP (f4, Y) σ4)) rfl ?_
  refine GW_aload 0 dX6_init_59 rfl rfl ?_
  refine GW_new [.int 0, .int 0, .null, .null, .null, .null, .null, .null, .int 0, .int 0, .int 0] dX6_init_60 (Cn := RX2) (T := TX2) (N := 11) (ty := tyX2) (ci := 2) rfl wtX2 tyX2_ok lkX6_24 inX2 iiX2 (fun j hj => by rcases (show j = 0 ∨ j = 1 ∨ j = 2 ∨ j = 3 ∨ j = 4 ∨ j = 5 ∨ j = 6 ∨ j = 7 ∨ j = 8 ∨ j = 9 ∨ j = 10 by omega) with rfl | rfl | rfl | rfl | rfl | rfl | rfl | rfl | rfl | rfl | rfl <;> rfl) (Nat.le_of_ble_eq_true rfl) (Nat.le_of_ble_eq_true rfl) (fun w5 => ?_)
  refine GW_dup dX6_init_63 ?_
  refine GW_init (y := mX2_init) (host := "BeltArms") dX6_init_64 (Or.inr (fun U h => h.2.2.2.2.2.1)) clX2 ⟨rfl, rfl, (Nat.le_of_ble_eq_true rfl), (Nat.le_of_ble_eq_true rfl), (Nat.le_of_ble_eq_true rfl), (Nat.le_of_ble_eq_true rfl)⟩ (Nat.le_of_ble_eq_true rfl) nX2 (fun f5 σ5 hf5 hσ5 => ?_)
  subst hf5
  refine GW_putF 0 dX6_init_67 qX6_31 rfl rfl rfl (Nat.le_of_ble_eq_true rfl) ?_
  refine GW_eq (ws' := ((((([(h0, .inr (6, [.ref (f1 0), .ref qa, .int (Int32.ofInt 0), .ref (f4 0), .ref (f5 0), .null, .int 0])), (qa, .inl (Y.2 3, 2, .inr (.inr (.inr (.inr (va_up (va_up (fun _ => none) 0 (some (f2 0))) 1 (some (f3 0))))))))] ++ am_ws TS (f1, Y) σ1) ++ am_ws TS (f2, Y) σ2) ++ am_ws TS (f3, Y) σ3) ++ am_ws TP (f4, Y) σ4) ++ am_ws TP (f5, Y) σ5)) rfl ?_
  refine GW_aload 0 dX6_init_70 rfl rfl ?_
  refine GW_new [.null, .null] dX6_init_71 (Cn := RX5) (T := TX5) (N := 2) (ty := tyX5) (ci := 5) rfl wtX5 tyX5_ok lkX6_34 inX5 iiX5 (fun j hj => by rcases (show j = 0 ∨ j = 1 by omega) with rfl | rfl <;> rfl) (Nat.le_of_ble_eq_true rfl) (Nat.le_of_ble_eq_true rfl) (fun w6 => ?_)
  refine GW_dup dX6_init_74 ?_
  refine GW_init (y := mX5_init) (host := "BeltArms") dX6_init_75 (Or.inr (fun U h => h.2.2.2.2.2.2)) clX5 ⟨rfl, rfl, (Nat.le_of_ble_eq_true rfl), (Nat.le_of_ble_eq_true rfl), (Nat.le_of_ble_eq_true rfl), (Nat.le_of_ble_eq_true rfl)⟩ (Nat.le_of_ble_eq_true rfl) nX5 (fun f6 σ6 hf6 hσ6 => ?_)
  subst hf6
  refine GW_putF 0 dX6_init_78 qX6_37 rfl rfl rfl (Nat.le_of_ble_eq_true rfl) ?_
  refine GW_eq (ws' := (((((([(h0, .inr (6, [.ref (f1 0), .ref qa, .int (Int32.ofInt 0), .ref (f4 0), .ref (f5 0), .ref (f6 0), .int 0])), (qa, .inl (Y.2 3, 2, .inr (.inr (.inr (.inr (va_up (va_up (fun _ => none) 0 (some (f2 0))) 1 (some (f3 0))))))))] ++ am_ws TS (f1, Y) σ1) ++ am_ws TS (f2, Y) σ2) ++ am_ws TS (f3, Y) σ3) ++ am_ws TP (f4, Y) σ4) ++ am_ws TP (f5, Y) σ5) ++ am_ws TR (f6, Y) σ6)) rfl ?_
  refine GW_aload 0 dX6_init_81 rfl rfl ?_
  refine GW_iconst dX6_init_82 ?_
  refine GW_put 0 dX6_init_83 pX6_41 rfl rfl rfl (Nat.le_of_ble_eq_true rfl) ?_
  refine GW_eq (ws' := (((((([(h0, .inr (6, [.ref (f1 0), .ref qa, .int (Int32.ofInt 0), .ref (f4 0), .ref (f5 0), .ref (f6 0), .int (Int32.ofInt 1)])), (qa, .inl (Y.2 3, 2, .inr (.inr (.inr (.inr (va_up (va_up (fun _ => none) 0 (some (f2 0))) 1 (some (f3 0))))))))] ++ am_ws TS (f1, Y) σ1) ++ am_ws TS (f2, Y) σ2) ++ am_ws TS (f3, Y) σ3) ++ am_ws TP (f4, Y) σ4) ++ am_ws TP (f5, Y) σ5) ++ am_ws TR (f6, Y) σ6)) rfl ?_
  refine GW_ret dX6_init_86 rfl (Nat.le_of_ble_eq_true rfl) (Nat.le_of_ble_eq_true rfl) ⟨_, _, rfl, xx_eq, ?_⟩
  refine ⟨rfl, rfl, ?_⟩
  exact ⟨hσ1.1, hσ1.2.1, ⟨hσ1.2.2.1.1, hσ1.2.2.1.2.1, hσ1.2.2.1.2.2.1, hσ1.2.2.1.2.2.2⟩, hσ1.2.2.2.1, fun a ha => hσ1.2.2.2.2 a ha⟩
