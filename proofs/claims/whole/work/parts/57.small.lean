-- ===== the small constructors =====
def PB (σ : am_S) : Prop := σ.1 0 0 = 2 ∧ σ.1 0 1 = 0 ∧ (∀ i, i < 8 → σ.1 1 i = 0 ∧ σ.1 2 i = 0) ∧ ∀ t, t ≤ 300 → σ.1 3 t = cgn 2 0 (fun _ => 0) (fun _ => 0) t
def PTh (σ : am_S) : Prop := σ.1 0 0 = 0
def PAr (σ : am_S) : Prop := ∀ a : Nat, a < 4 → σ.1 1 a = 100 * (a : Int) + 100 ∧ σ.1 2 a = 100 * (a : Int) + 160 ∧ σ.1 3 a = 5 ∧ σ.1 4 a = 0 ∧ σ.1 5 a = 15
def PTr (_ : am_S) : Prop := True
theorem nX1 : Ctor mX1_init 1 [.int 0, .int 0, .null, .null, .null] TB PB := by
  refine Ctor.of (by decide) rfl (Nat.le_of_ble_eq_true rfl) (fun Y h0 => ?_)
  refine GW_aload 0 dX1_init_0 rfl rfl ?_
  refine GW_obj dX1_init_1 oiX1 oi_2 oi_3 (Nat.le_of_ble_eq_true rfl) (Nat.le_of_ble_eq_true rfl) ?_
  refine GW_aload 0 dX1_init_4 rfl rfl ?_
  refine GW_iconst dX1_init_5 ?_
  refine GW_put 0 dX1_init_6 pX1_9 rfl rfl rfl (Nat.le_of_ble_eq_true rfl) ?_
  refine GW_eq (ws' := [(h0, .inr (1, [.int (Int32.ofInt 2), .int 0, .null, .null, .null]))]) rfl ?_
  refine GW_aload 0 dX1_init_9 rfl rfl ?_
  refine GW_iconst dX1_init_10 ?_
  refine GW_put 0 dX1_init_11 pX1_15 rfl rfl rfl (Nat.le_of_ble_eq_true rfl) ?_
  refine GW_eq (ws' := [(h0, .inr (1, [.int (Int32.ofInt 2), .int (Int32.ofInt 0), .null, .null, .null]))]) rfl ?_
  refine GW_aload 0 dX1_init_14 rfl rfl ?_
  refine GW_bipush dX1_init_15 (by decide) ?_
  refine GW_newi (N := 8) dX1_init_17 ac_int rfl (Nat.le_of_ble_eq_true rfl) (Nat.le_of_ble_eq_true rfl) (Nat.le_of_ble_eq_true rfl) (Nat.le_of_ble_eq_true rfl) (fun q1 => ?_)
  refine GW_eq (ws' := [(h0, .inr (1, [.int (Int32.ofInt 2), .int (Int32.ofInt 0), .null, .null, .null])), (q1, .inl (Y.2 0, 8, .inl (fun j => Int32.ofInt ((zR : Row) j))))]) rfl ?_
  refine GW_putF 0 dX1_init_19 qX1_18 rfl rfl rfl (Nat.le_of_ble_eq_true rfl) ?_
  refine GW_eq (ws' := [(h0, .inr (1, [.int (Int32.ofInt 2), .int (Int32.ofInt 0), .ref q1, .null, .null])), (q1, .inl (Y.2 0, 8, .inl (fun j => Int32.ofInt ((zR : Row) j))))]) rfl ?_
  refine GW_aload 0 dX1_init_22 rfl rfl ?_
  refine GW_bipush dX1_init_23 (by decide) ?_
  refine GW_newi (N := 8) dX1_init_25 ac_int rfl (Nat.le_of_ble_eq_true rfl) (Nat.le_of_ble_eq_true rfl) (Nat.le_of_ble_eq_true rfl) (Nat.le_of_ble_eq_true rfl) (fun q2 => ?_)
  refine GW_eq (ws' := [(h0, .inr (1, [.int (Int32.ofInt 2), .int (Int32.ofInt 0), .ref q1, .null, .null])), (q1, .inl (Y.2 0, 8, .inl (fun j => Int32.ofInt ((zR : Row) j)))), (q2, .inl (Y.2 0, 8, .inl (fun j => Int32.ofInt ((zR : Row) j))))]) rfl ?_
  refine GW_putF 0 dX1_init_27 qX1_22 rfl rfl rfl (Nat.le_of_ble_eq_true rfl) ?_
  refine GW_eq (ws' := [(h0, .inr (1, [.int (Int32.ofInt 2), .int (Int32.ofInt 0), .ref q1, .ref q2, .null])), (q1, .inl (Y.2 0, 8, .inl (fun j => Int32.ofInt ((zR : Row) j)))), (q2, .inl (Y.2 0, 8, .inl (fun j => Int32.ofInt ((zR : Row) j))))]) rfl ?_
  refine GW_aload 0 dX1_init_30 rfl rfl ?_
  refine GW_sipush dX1_init_31 (by decide) ?_
  refine GW_newi (N := 301) dX1_init_34 ac_int rfl (Nat.le_of_ble_eq_true rfl) (Nat.le_of_ble_eq_true rfl) (Nat.le_of_ble_eq_true rfl) (Nat.le_of_ble_eq_true rfl) (fun q3 => ?_)
  refine GW_eq (ws' := [(h0, .inr (1, [.int (Int32.ofInt 2), .int (Int32.ofInt 0), .ref q1, .ref q2, .null])), (q1, .inl (Y.2 0, 8, .inl (fun j => Int32.ofInt ((zR : Row) j)))), (q2, .inl (Y.2 0, 8, .inl (fun j => Int32.ofInt ((zR : Row) j)))), (q3, .inl (Y.2 0, 301, .inl (fun j => Int32.ofInt ((zR : Row) j))))]) rfl ?_
  refine GW_putF 0 dX1_init_36 qX1_25 rfl rfl rfl (Nat.le_of_ble_eq_true rfl) ?_
  refine GW_eq (ws' := [(h0, .inr (1, [.int (Int32.ofInt 2), .int (Int32.ofInt 0), .ref q1, .ref q2, .ref q3])), (q1, .inl (Y.2 0, 8, .inl (fun j => Int32.ofInt ((zR : Row) j)))), (q2, .inl (Y.2 0, 8, .inl (fun j => Int32.ofInt ((zR : Row) j)))), (q3, .inl (Y.2 0, 301, .inl (fun j => Int32.ofInt ((zR : Row) j))))]) rfl ?_
  refine GW_aload 0 dX1_init_39 rfl rfl ?_
  have he : ([(h0, .inr (1, [.int (Int32.ofInt 2), .int (Int32.ofInt 0), .ref q1, .ref q2, .ref q3])), (q1, .inl (Y.2 0, 8, .inl (fun j => Int32.ofInt ((zR : Row) j)))), (q2, .inl (Y.2 0, 8, .inl (fun j => Int32.ofInt ((zR : Row) j)))), (q3, .inl (Y.2 0, 301, .inl (fun j => Int32.ofInt ((zR : Row) j))))] : va_W) = am_ws TB (lR [h0, q1, q2, q3] 0, Y) (sR [rup (zR) 0 2, zR, zR, zR]) := by
    simp only [am_ws, TB, List.mapIdx_cons, List.mapIdx_nil]
    rfl
  refine GW_eq he ?_
  refine GW_callV (T := TB) (b := 0) (f := lR [h0, q1, q2, q3] 0) dX1_init_40 kX1_28 ⟨rfl, rfl, rfl⟩ ⟨rfl, rfl, (Nat.le_of_ble_eq_true rfl), (Nat.le_of_ble_eq_true rfl), (Nat.le_of_ble_eq_true rfl), (Nat.le_of_ble_eq_true rfl)⟩ rfl rfl (c_addUp (T := TB) (b := 0) (t := 1) (s := 2) (g := 3) rfl rfl rfl rfl (by decide) (by decide) (by decide) ⟨by decide, by decide⟩ (fun i _ => ⟨Int.le_refl 0, (by decide : (0 : Int) ≤ 300)⟩)) (fun σ' hσ => ?_)
  subst hσ
  refine GW_ret dX1_init_43 rfl (Nat.le_of_ble_eq_true rfl) (Nat.le_of_ble_eq_true rfl) ⟨lR [h0, q1, q2, q3] 0, _, rfl, rfl, ?_⟩
  refine ⟨rfl, rfl, fun i _ => ⟨rfl, rfl⟩, fun t ht => ?_⟩
  show (if 3 = 3 ∧ t < 301 then _ else _) = _
  rw [if_pos ⟨rfl, by omega⟩]
  rfl
theorem nX4 : Ctor mX4_init 4 [.int 0, .null, .null, .null, .null, .null] TT PTh := by
  refine Ctor.of (by decide) rfl (Nat.le_of_ble_eq_true rfl) (fun Y h0 => ?_)
  refine GW_aload 0 dX4_init_0 rfl rfl ?_
  refine GW_obj dX4_init_1 oiX4 oi_2 oi_3 (Nat.le_of_ble_eq_true rfl) (Nat.le_of_ble_eq_true rfl) ?_
  refine GW_aload 0 dX4_init_4 rfl rfl ?_
  refine GW_iconst dX4_init_5 ?_
  refine GW_put 0 dX4_init_6 pX4_11 rfl rfl rfl (Nat.le_of_ble_eq_true rfl) ?_
  refine GW_eq (ws' := [(h0, .inr (4, [.int (Int32.ofInt 0), .null, .null, .null, .null, .null]))]) rfl ?_
  refine GW_aload 0 dX4_init_9 rfl rfl ?_
  refine GW_bipush dX4_init_10 (by decide) ?_
  refine GW_newi (N := 20) dX4_init_12 ac_int rfl (Nat.le_of_ble_eq_true rfl) (Nat.le_of_ble_eq_true rfl) (Nat.le_of_ble_eq_true rfl) (Nat.le_of_ble_eq_true rfl) (fun q1 => ?_)
  refine GW_eq (ws' := [(h0, .inr (4, [.int (Int32.ofInt 0), .null, .null, .null, .null, .null])), (q1, .inl (Y.2 0, 20, .inl (fun j => Int32.ofInt ((zR : Row) j))))]) rfl ?_
  refine GW_putF 0 dX4_init_14 qX4_15 rfl rfl rfl (Nat.le_of_ble_eq_true rfl) ?_
  refine GW_eq (ws' := [(h0, .inr (4, [.int (Int32.ofInt 0), .ref q1, .null, .null, .null, .null])), (q1, .inl (Y.2 0, 20, .inl (fun j => Int32.ofInt ((zR : Row) j))))]) rfl ?_
  refine GW_aload 0 dX4_init_17 rfl rfl ?_
  refine GW_bipush dX4_init_18 (by decide) ?_
  refine GW_newi (N := 20) dX4_init_20 ac_int rfl (Nat.le_of_ble_eq_true rfl) (Nat.le_of_ble_eq_true rfl) (Nat.le_of_ble_eq_true rfl) (Nat.le_of_ble_eq_true rfl) (fun q2 => ?_)
  refine GW_eq (ws' := [(h0, .inr (4, [.int (Int32.ofInt 0), .ref q1, .null, .null, .null, .null])), (q1, .inl (Y.2 0, 20, .inl (fun j => Int32.ofInt ((zR : Row) j)))), (q2, .inl (Y.2 0, 20, .inl (fun j => Int32.ofInt ((zR : Row) j))))]) rfl ?_
  refine GW_putF 0 dX4_init_22 qX4_19 rfl rfl rfl (Nat.le_of_ble_eq_true rfl) ?_
  refine GW_eq (ws' := [(h0, .inr (4, [.int (Int32.ofInt 0), .ref q1, .ref q2, .null, .null, .null])), (q1, .inl (Y.2 0, 20, .inl (fun j => Int32.ofInt ((zR : Row) j)))), (q2, .inl (Y.2 0, 20, .inl (fun j => Int32.ofInt ((zR : Row) j))))]) rfl ?_
  refine GW_aload 0 dX4_init_25 rfl rfl ?_
  refine GW_bipush dX4_init_26 (by decide) ?_
  refine GW_newi (N := 20) dX4_init_28 ac_int rfl (Nat.le_of_ble_eq_true rfl) (Nat.le_of_ble_eq_true rfl) (Nat.le_of_ble_eq_true rfl) (Nat.le_of_ble_eq_true rfl) (fun q3 => ?_)
  refine GW_eq (ws' := [(h0, .inr (4, [.int (Int32.ofInt 0), .ref q1, .ref q2, .null, .null, .null])), (q1, .inl (Y.2 0, 20, .inl (fun j => Int32.ofInt ((zR : Row) j)))), (q2, .inl (Y.2 0, 20, .inl (fun j => Int32.ofInt ((zR : Row) j)))), (q3, .inl (Y.2 0, 20, .inl (fun j => Int32.ofInt ((zR : Row) j))))]) rfl ?_
  refine GW_putF 0 dX4_init_30 qX4_22 rfl rfl rfl (Nat.le_of_ble_eq_true rfl) ?_
  refine GW_eq (ws' := [(h0, .inr (4, [.int (Int32.ofInt 0), .ref q1, .ref q2, .ref q3, .null, .null])), (q1, .inl (Y.2 0, 20, .inl (fun j => Int32.ofInt ((zR : Row) j)))), (q2, .inl (Y.2 0, 20, .inl (fun j => Int32.ofInt ((zR : Row) j)))), (q3, .inl (Y.2 0, 20, .inl (fun j => Int32.ofInt ((zR : Row) j))))]) rfl ?_
  refine GW_aload 0 dX4_init_33 rfl rfl ?_
  refine GW_bipush dX4_init_34 (by decide) ?_
  refine GW_newi (N := 20) dX4_init_36 ac_int rfl (Nat.le_of_ble_eq_true rfl) (Nat.le_of_ble_eq_true rfl) (Nat.le_of_ble_eq_true rfl) (Nat.le_of_ble_eq_true rfl) (fun q4 => ?_)
  refine GW_eq (ws' := [(h0, .inr (4, [.int (Int32.ofInt 0), .ref q1, .ref q2, .ref q3, .null, .null])), (q1, .inl (Y.2 0, 20, .inl (fun j => Int32.ofInt ((zR : Row) j)))), (q2, .inl (Y.2 0, 20, .inl (fun j => Int32.ofInt ((zR : Row) j)))), (q3, .inl (Y.2 0, 20, .inl (fun j => Int32.ofInt ((zR : Row) j)))), (q4, .inl (Y.2 0, 20, .inl (fun j => Int32.ofInt ((zR : Row) j))))]) rfl ?_
  refine GW_putF 0 dX4_init_38 qX4_25 rfl rfl rfl (Nat.le_of_ble_eq_true rfl) ?_
  refine GW_eq (ws' := [(h0, .inr (4, [.int (Int32.ofInt 0), .ref q1, .ref q2, .ref q3, .ref q4, .null])), (q1, .inl (Y.2 0, 20, .inl (fun j => Int32.ofInt ((zR : Row) j)))), (q2, .inl (Y.2 0, 20, .inl (fun j => Int32.ofInt ((zR : Row) j)))), (q3, .inl (Y.2 0, 20, .inl (fun j => Int32.ofInt ((zR : Row) j)))), (q4, .inl (Y.2 0, 20, .inl (fun j => Int32.ofInt ((zR : Row) j))))]) rfl ?_
  refine GW_aload 0 dX4_init_41 rfl rfl ?_
  refine GW_bipush dX4_init_42 (by decide) ?_
  refine GW_newl (N := 100) dX4_init_44 ac_long rfl (Nat.le_of_ble_eq_true rfl) (Nat.le_of_ble_eq_true rfl) (Nat.le_of_ble_eq_true rfl) (Nat.le_of_ble_eq_true rfl) (fun q5 => ?_)
  refine GW_eq (ws' := [(h0, .inr (4, [.int (Int32.ofInt 0), .ref q1, .ref q2, .ref q3, .ref q4, .null])), (q1, .inl (Y.2 0, 20, .inl (fun j => Int32.ofInt ((zR : Row) j)))), (q2, .inl (Y.2 0, 20, .inl (fun j => Int32.ofInt ((zR : Row) j)))), (q3, .inl (Y.2 0, 20, .inl (fun j => Int32.ofInt ((zR : Row) j)))), (q4, .inl (Y.2 0, 20, .inl (fun j => Int32.ofInt ((zR : Row) j)))), (q5, .inl (Y.2 2, 100, .inr (.inl (fun _ => 0))))]) rfl ?_
  refine GW_putF 0 dX4_init_46 qX4_28 rfl rfl rfl (Nat.le_of_ble_eq_true rfl) ?_
  refine GW_eq (ws' := [(h0, .inr (4, [.int (Int32.ofInt 0), .ref q1, .ref q2, .ref q3, .ref q4, .ref q5])), (q1, .inl (Y.2 0, 20, .inl (fun j => Int32.ofInt ((zR : Row) j)))), (q2, .inl (Y.2 0, 20, .inl (fun j => Int32.ofInt ((zR : Row) j)))), (q3, .inl (Y.2 0, 20, .inl (fun j => Int32.ofInt ((zR : Row) j)))), (q4, .inl (Y.2 0, 20, .inl (fun j => Int32.ofInt ((zR : Row) j)))), (q5, .inl (Y.2 2, 100, .inr (.inl (fun _ => 0))))]) rfl ?_
  refine GW_ret dX4_init_49 rfl (Nat.le_of_ble_eq_true rfl) (Nat.le_of_ble_eq_true rfl) ⟨lR [h0, q1, q2, q3, q4, q5] 0, sR [zR, zR, zR, zR, zR, zR], rfl, ?_, ?_⟩
  · simp only [am_ws, TT, List.mapIdx_cons, List.mapIdx_nil]
    rfl
  · exact rfl
theorem nX0 : Ctor mX0_init 0 [.null, .null, .null, .null, .null] TA PAr := by
  refine Ctor.of (by decide) rfl (Nat.le_of_ble_eq_true rfl) (fun Y h0 => ?_)
  refine GW_aload 0 dX0_init_0 rfl rfl ?_
  refine GW_obj dX0_init_1 oiX0 oi_2 oi_3 (Nat.le_of_ble_eq_true rfl) (Nat.le_of_ble_eq_true rfl) ?_
  refine GW_aload 0 dX0_init_4 rfl rfl ?_
  refine GW_iconst dX0_init_5 ?_
  refine GW_newi (N := 4) dX0_init_6 ac_int rfl (Nat.le_of_ble_eq_true rfl) (Nat.le_of_ble_eq_true rfl) (Nat.le_of_ble_eq_true rfl) (Nat.le_of_ble_eq_true rfl) (fun q1 => ?_)
  refine GW_eq (ws' := [(h0, .inr (0, [.null, .null, .null, .null, .null])), (q1, .inl (Y.2 0, 4, .inl (fun j => Int32.ofInt ((zR : Row) j))))]) rfl ?_
  refine GW_dup dX0_init_8 ?_
  refine GW_iconst dX0_init_9 ?_
  refine GW_bipush dX0_init_10 (by decide) ?_
  refine GW_iast (i := 0) 1 dX0_init_12 rfl rfl (Nat.le_of_ble_eq_true rfl) (Nat.le_of_ble_eq_true rfl) ?_
  refine GW_eq (ws' := [(h0, .inr (0, [.null, .null, .null, .null, .null])), (q1, .inl (Y.2 0, 4, .inl (fun j => Int32.ofInt ((rup (zR) 0 100 : Row) j))))]) rfl ?_
  refine GW_dup dX0_init_13 ?_
  refine GW_iconst dX0_init_14 ?_
  refine GW_sipush dX0_init_15 (by decide) ?_
  refine GW_iast (i := 1) 1 dX0_init_18 rfl rfl (Nat.le_of_ble_eq_true rfl) (Nat.le_of_ble_eq_true rfl) ?_
  refine GW_eq (ws' := [(h0, .inr (0, [.null, .null, .null, .null, .null])), (q1, .inl (Y.2 0, 4, .inl (fun j => Int32.ofInt ((rup (rup (zR) 0 100) 1 200 : Row) j))))]) rfl ?_
  refine GW_dup dX0_init_19 ?_
  refine GW_iconst dX0_init_20 ?_
  refine GW_sipush dX0_init_21 (by decide) ?_
  refine GW_iast (i := 2) 1 dX0_init_24 rfl rfl (Nat.le_of_ble_eq_true rfl) (Nat.le_of_ble_eq_true rfl) ?_
  refine GW_eq (ws' := [(h0, .inr (0, [.null, .null, .null, .null, .null])), (q1, .inl (Y.2 0, 4, .inl (fun j => Int32.ofInt ((rup (rup (rup (zR) 0 100) 1 200) 2 300 : Row) j))))]) rfl ?_
  refine GW_dup dX0_init_25 ?_
  refine GW_iconst dX0_init_26 ?_
  refine GW_sipush dX0_init_27 (by decide) ?_
  refine GW_iast (i := 3) 1 dX0_init_30 rfl rfl (Nat.le_of_ble_eq_true rfl) (Nat.le_of_ble_eq_true rfl) ?_
  refine GW_eq (ws' := [(h0, .inr (0, [.null, .null, .null, .null, .null])), (q1, .inl (Y.2 0, 4, .inl (fun j => Int32.ofInt ((rup (rup (rup (rup (zR) 0 100) 1 200) 2 300) 3 400 : Row) j))))]) rfl ?_
  refine GW_putF 0 dX0_init_31 qX0_9 rfl rfl rfl (Nat.le_of_ble_eq_true rfl) ?_
  refine GW_eq (ws' := [(h0, .inr (0, [.ref q1, .null, .null, .null, .null])), (q1, .inl (Y.2 0, 4, .inl (fun j => Int32.ofInt ((rup (rup (rup (rup (zR) 0 100) 1 200) 2 300) 3 400 : Row) j))))]) rfl ?_
  refine GW_aload 0 dX0_init_34 rfl rfl ?_
  refine GW_iconst dX0_init_35 ?_
  refine GW_newi (N := 4) dX0_init_36 ac_int rfl (Nat.le_of_ble_eq_true rfl) (Nat.le_of_ble_eq_true rfl) (Nat.le_of_ble_eq_true rfl) (Nat.le_of_ble_eq_true rfl) (fun q2 => ?_)
  refine GW_eq (ws' := [(h0, .inr (0, [.ref q1, .null, .null, .null, .null])), (q1, .inl (Y.2 0, 4, .inl (fun j => Int32.ofInt ((rup (rup (rup (rup (zR) 0 100) 1 200) 2 300) 3 400 : Row) j)))), (q2, .inl (Y.2 0, 4, .inl (fun j => Int32.ofInt ((zR : Row) j))))]) rfl ?_
  refine GW_dup dX0_init_38 ?_
  refine GW_iconst dX0_init_39 ?_
  refine GW_sipush dX0_init_40 (by decide) ?_
  refine GW_iast (i := 0) 2 dX0_init_43 rfl rfl (Nat.le_of_ble_eq_true rfl) (Nat.le_of_ble_eq_true rfl) ?_
  refine GW_eq (ws' := [(h0, .inr (0, [.ref q1, .null, .null, .null, .null])), (q1, .inl (Y.2 0, 4, .inl (fun j => Int32.ofInt ((rup (rup (rup (rup (zR) 0 100) 1 200) 2 300) 3 400 : Row) j)))), (q2, .inl (Y.2 0, 4, .inl (fun j => Int32.ofInt ((rup (zR) 0 160 : Row) j))))]) rfl ?_
  refine GW_dup dX0_init_44 ?_
  refine GW_iconst dX0_init_45 ?_
  refine GW_sipush dX0_init_46 (by decide) ?_
  refine GW_iast (i := 1) 2 dX0_init_49 rfl rfl (Nat.le_of_ble_eq_true rfl) (Nat.le_of_ble_eq_true rfl) ?_
  refine GW_eq (ws' := [(h0, .inr (0, [.ref q1, .null, .null, .null, .null])), (q1, .inl (Y.2 0, 4, .inl (fun j => Int32.ofInt ((rup (rup (rup (rup (zR) 0 100) 1 200) 2 300) 3 400 : Row) j)))), (q2, .inl (Y.2 0, 4, .inl (fun j => Int32.ofInt ((rup (rup (zR) 0 160) 1 260 : Row) j))))]) rfl ?_
  refine GW_dup dX0_init_50 ?_
  refine GW_iconst dX0_init_51 ?_
  refine GW_sipush dX0_init_52 (by decide) ?_
  refine GW_iast (i := 2) 2 dX0_init_55 rfl rfl (Nat.le_of_ble_eq_true rfl) (Nat.le_of_ble_eq_true rfl) ?_
  refine GW_eq (ws' := [(h0, .inr (0, [.ref q1, .null, .null, .null, .null])), (q1, .inl (Y.2 0, 4, .inl (fun j => Int32.ofInt ((rup (rup (rup (rup (zR) 0 100) 1 200) 2 300) 3 400 : Row) j)))), (q2, .inl (Y.2 0, 4, .inl (fun j => Int32.ofInt ((rup (rup (rup (zR) 0 160) 1 260) 2 360 : Row) j))))]) rfl ?_
  refine GW_dup dX0_init_56 ?_
  refine GW_iconst dX0_init_57 ?_
  refine GW_sipush dX0_init_58 (by decide) ?_
  refine GW_iast (i := 3) 2 dX0_init_61 rfl rfl (Nat.le_of_ble_eq_true rfl) (Nat.le_of_ble_eq_true rfl) ?_
  refine GW_eq (ws' := [(h0, .inr (0, [.ref q1, .null, .null, .null, .null])), (q1, .inl (Y.2 0, 4, .inl (fun j => Int32.ofInt ((rup (rup (rup (rup (zR) 0 100) 1 200) 2 300) 3 400 : Row) j)))), (q2, .inl (Y.2 0, 4, .inl (fun j => Int32.ofInt ((rup (rup (rup (rup (zR) 0 160) 1 260) 2 360) 3 460 : Row) j))))]) rfl ?_
  refine GW_putF 0 dX0_init_62 qX0_15 rfl rfl rfl (Nat.le_of_ble_eq_true rfl) ?_
  refine GW_eq (ws' := [(h0, .inr (0, [.ref q1, .ref q2, .null, .null, .null])), (q1, .inl (Y.2 0, 4, .inl (fun j => Int32.ofInt ((rup (rup (rup (rup (zR) 0 100) 1 200) 2 300) 3 400 : Row) j)))), (q2, .inl (Y.2 0, 4, .inl (fun j => Int32.ofInt ((rup (rup (rup (rup (zR) 0 160) 1 260) 2 360) 3 460 : Row) j))))]) rfl ?_
  refine GW_aload 0 dX0_init_65 rfl rfl ?_
  refine GW_iconst dX0_init_66 ?_
  refine GW_newi (N := 4) dX0_init_67 ac_int rfl (Nat.le_of_ble_eq_true rfl) (Nat.le_of_ble_eq_true rfl) (Nat.le_of_ble_eq_true rfl) (Nat.le_of_ble_eq_true rfl) (fun q3 => ?_)
  refine GW_eq (ws' := [(h0, .inr (0, [.ref q1, .ref q2, .null, .null, .null])), (q1, .inl (Y.2 0, 4, .inl (fun j => Int32.ofInt ((rup (rup (rup (rup (zR) 0 100) 1 200) 2 300) 3 400 : Row) j)))), (q2, .inl (Y.2 0, 4, .inl (fun j => Int32.ofInt ((rup (rup (rup (rup (zR) 0 160) 1 260) 2 360) 3 460 : Row) j)))), (q3, .inl (Y.2 0, 4, .inl (fun j => Int32.ofInt ((zR : Row) j))))]) rfl ?_
  refine GW_dup dX0_init_69 ?_
  refine GW_iconst dX0_init_70 ?_
  refine GW_iconst dX0_init_71 ?_
  refine GW_iast (i := 0) 3 dX0_init_72 rfl rfl (Nat.le_of_ble_eq_true rfl) (Nat.le_of_ble_eq_true rfl) ?_
  refine GW_eq (ws' := [(h0, .inr (0, [.ref q1, .ref q2, .null, .null, .null])), (q1, .inl (Y.2 0, 4, .inl (fun j => Int32.ofInt ((rup (rup (rup (rup (zR) 0 100) 1 200) 2 300) 3 400 : Row) j)))), (q2, .inl (Y.2 0, 4, .inl (fun j => Int32.ofInt ((rup (rup (rup (rup (zR) 0 160) 1 260) 2 360) 3 460 : Row) j)))), (q3, .inl (Y.2 0, 4, .inl (fun j => Int32.ofInt ((rup (zR) 0 5 : Row) j))))]) rfl ?_
  refine GW_dup dX0_init_73 ?_
  refine GW_iconst dX0_init_74 ?_
  refine GW_iconst dX0_init_75 ?_
  refine GW_iast (i := 1) 3 dX0_init_76 rfl rfl (Nat.le_of_ble_eq_true rfl) (Nat.le_of_ble_eq_true rfl) ?_
  refine GW_eq (ws' := [(h0, .inr (0, [.ref q1, .ref q2, .null, .null, .null])), (q1, .inl (Y.2 0, 4, .inl (fun j => Int32.ofInt ((rup (rup (rup (rup (zR) 0 100) 1 200) 2 300) 3 400 : Row) j)))), (q2, .inl (Y.2 0, 4, .inl (fun j => Int32.ofInt ((rup (rup (rup (rup (zR) 0 160) 1 260) 2 360) 3 460 : Row) j)))), (q3, .inl (Y.2 0, 4, .inl (fun j => Int32.ofInt ((rup (rup (zR) 0 5) 1 5 : Row) j))))]) rfl ?_
  refine GW_dup dX0_init_77 ?_
  refine GW_iconst dX0_init_78 ?_
  refine GW_iconst dX0_init_79 ?_
  refine GW_iast (i := 2) 3 dX0_init_80 rfl rfl (Nat.le_of_ble_eq_true rfl) (Nat.le_of_ble_eq_true rfl) ?_
  refine GW_eq (ws' := [(h0, .inr (0, [.ref q1, .ref q2, .null, .null, .null])), (q1, .inl (Y.2 0, 4, .inl (fun j => Int32.ofInt ((rup (rup (rup (rup (zR) 0 100) 1 200) 2 300) 3 400 : Row) j)))), (q2, .inl (Y.2 0, 4, .inl (fun j => Int32.ofInt ((rup (rup (rup (rup (zR) 0 160) 1 260) 2 360) 3 460 : Row) j)))), (q3, .inl (Y.2 0, 4, .inl (fun j => Int32.ofInt ((rup (rup (rup (zR) 0 5) 1 5) 2 5 : Row) j))))]) rfl ?_
  refine GW_dup dX0_init_81 ?_
  refine GW_iconst dX0_init_82 ?_
  refine GW_iconst dX0_init_83 ?_
  refine GW_iast (i := 3) 3 dX0_init_84 rfl rfl (Nat.le_of_ble_eq_true rfl) (Nat.le_of_ble_eq_true rfl) ?_
  refine GW_eq (ws' := [(h0, .inr (0, [.ref q1, .ref q2, .null, .null, .null])), (q1, .inl (Y.2 0, 4, .inl (fun j => Int32.ofInt ((rup (rup (rup (rup (zR) 0 100) 1 200) 2 300) 3 400 : Row) j)))), (q2, .inl (Y.2 0, 4, .inl (fun j => Int32.ofInt ((rup (rup (rup (rup (zR) 0 160) 1 260) 2 360) 3 460 : Row) j)))), (q3, .inl (Y.2 0, 4, .inl (fun j => Int32.ofInt ((rup (rup (rup (rup (zR) 0 5) 1 5) 2 5) 3 5 : Row) j))))]) rfl ?_
  refine GW_putF 0 dX0_init_85 qX0_18 rfl rfl rfl (Nat.le_of_ble_eq_true rfl) ?_
  refine GW_eq (ws' := [(h0, .inr (0, [.ref q1, .ref q2, .ref q3, .null, .null])), (q1, .inl (Y.2 0, 4, .inl (fun j => Int32.ofInt ((rup (rup (rup (rup (zR) 0 100) 1 200) 2 300) 3 400 : Row) j)))), (q2, .inl (Y.2 0, 4, .inl (fun j => Int32.ofInt ((rup (rup (rup (rup (zR) 0 160) 1 260) 2 360) 3 460 : Row) j)))), (q3, .inl (Y.2 0, 4, .inl (fun j => Int32.ofInt ((rup (rup (rup (rup (zR) 0 5) 1 5) 2 5) 3 5 : Row) j))))]) rfl ?_
  refine GW_aload 0 dX0_init_88 rfl rfl ?_
  refine GW_iconst dX0_init_89 ?_
  refine GW_newi (N := 4) dX0_init_90 ac_int rfl (Nat.le_of_ble_eq_true rfl) (Nat.le_of_ble_eq_true rfl) (Nat.le_of_ble_eq_true rfl) (Nat.le_of_ble_eq_true rfl) (fun q4 => ?_)
  refine GW_eq (ws' := [(h0, .inr (0, [.ref q1, .ref q2, .ref q3, .null, .null])), (q1, .inl (Y.2 0, 4, .inl (fun j => Int32.ofInt ((rup (rup (rup (rup (zR) 0 100) 1 200) 2 300) 3 400 : Row) j)))), (q2, .inl (Y.2 0, 4, .inl (fun j => Int32.ofInt ((rup (rup (rup (rup (zR) 0 160) 1 260) 2 360) 3 460 : Row) j)))), (q3, .inl (Y.2 0, 4, .inl (fun j => Int32.ofInt ((rup (rup (rup (rup (zR) 0 5) 1 5) 2 5) 3 5 : Row) j)))), (q4, .inl (Y.2 0, 4, .inl (fun j => Int32.ofInt ((zR : Row) j))))]) rfl ?_
  refine GW_dup dX0_init_92 ?_
  refine GW_iconst dX0_init_93 ?_
  refine GW_iconst dX0_init_94 ?_
  refine GW_iast (i := 0) 4 dX0_init_95 rfl rfl (Nat.le_of_ble_eq_true rfl) (Nat.le_of_ble_eq_true rfl) ?_
  refine GW_eq (ws' := [(h0, .inr (0, [.ref q1, .ref q2, .ref q3, .null, .null])), (q1, .inl (Y.2 0, 4, .inl (fun j => Int32.ofInt ((rup (rup (rup (rup (zR) 0 100) 1 200) 2 300) 3 400 : Row) j)))), (q2, .inl (Y.2 0, 4, .inl (fun j => Int32.ofInt ((rup (rup (rup (rup (zR) 0 160) 1 260) 2 360) 3 460 : Row) j)))), (q3, .inl (Y.2 0, 4, .inl (fun j => Int32.ofInt ((rup (rup (rup (rup (zR) 0 5) 1 5) 2 5) 3 5 : Row) j)))), (q4, .inl (Y.2 0, 4, .inl (fun j => Int32.ofInt ((rup (zR) 0 0 : Row) j))))]) rfl ?_
  refine GW_dup dX0_init_96 ?_
  refine GW_iconst dX0_init_97 ?_
  refine GW_iconst dX0_init_98 ?_
  refine GW_iast (i := 1) 4 dX0_init_99 rfl rfl (Nat.le_of_ble_eq_true rfl) (Nat.le_of_ble_eq_true rfl) ?_
  refine GW_eq (ws' := [(h0, .inr (0, [.ref q1, .ref q2, .ref q3, .null, .null])), (q1, .inl (Y.2 0, 4, .inl (fun j => Int32.ofInt ((rup (rup (rup (rup (zR) 0 100) 1 200) 2 300) 3 400 : Row) j)))), (q2, .inl (Y.2 0, 4, .inl (fun j => Int32.ofInt ((rup (rup (rup (rup (zR) 0 160) 1 260) 2 360) 3 460 : Row) j)))), (q3, .inl (Y.2 0, 4, .inl (fun j => Int32.ofInt ((rup (rup (rup (rup (zR) 0 5) 1 5) 2 5) 3 5 : Row) j)))), (q4, .inl (Y.2 0, 4, .inl (fun j => Int32.ofInt ((rup (rup (zR) 0 0) 1 0 : Row) j))))]) rfl ?_
  refine GW_dup dX0_init_100 ?_
  refine GW_iconst dX0_init_101 ?_
  refine GW_iconst dX0_init_102 ?_
  refine GW_iast (i := 2) 4 dX0_init_103 rfl rfl (Nat.le_of_ble_eq_true rfl) (Nat.le_of_ble_eq_true rfl) ?_
  refine GW_eq (ws' := [(h0, .inr (0, [.ref q1, .ref q2, .ref q3, .null, .null])), (q1, .inl (Y.2 0, 4, .inl (fun j => Int32.ofInt ((rup (rup (rup (rup (zR) 0 100) 1 200) 2 300) 3 400 : Row) j)))), (q2, .inl (Y.2 0, 4, .inl (fun j => Int32.ofInt ((rup (rup (rup (rup (zR) 0 160) 1 260) 2 360) 3 460 : Row) j)))), (q3, .inl (Y.2 0, 4, .inl (fun j => Int32.ofInt ((rup (rup (rup (rup (zR) 0 5) 1 5) 2 5) 3 5 : Row) j)))), (q4, .inl (Y.2 0, 4, .inl (fun j => Int32.ofInt ((rup (rup (rup (zR) 0 0) 1 0) 2 0 : Row) j))))]) rfl ?_
  refine GW_dup dX0_init_104 ?_
  refine GW_iconst dX0_init_105 ?_
  refine GW_iconst dX0_init_106 ?_
  refine GW_iast (i := 3) 4 dX0_init_107 rfl rfl (Nat.le_of_ble_eq_true rfl) (Nat.le_of_ble_eq_true rfl) ?_
  refine GW_eq (ws' := [(h0, .inr (0, [.ref q1, .ref q2, .ref q3, .null, .null])), (q1, .inl (Y.2 0, 4, .inl (fun j => Int32.ofInt ((rup (rup (rup (rup (zR) 0 100) 1 200) 2 300) 3 400 : Row) j)))), (q2, .inl (Y.2 0, 4, .inl (fun j => Int32.ofInt ((rup (rup (rup (rup (zR) 0 160) 1 260) 2 360) 3 460 : Row) j)))), (q3, .inl (Y.2 0, 4, .inl (fun j => Int32.ofInt ((rup (rup (rup (rup (zR) 0 5) 1 5) 2 5) 3 5 : Row) j)))), (q4, .inl (Y.2 0, 4, .inl (fun j => Int32.ofInt ((rup (rup (rup (rup (zR) 0 0) 1 0) 2 0) 3 0 : Row) j))))]) rfl ?_
  refine GW_putF 0 dX0_init_108 qX0_21 rfl rfl rfl (Nat.le_of_ble_eq_true rfl) ?_
  refine GW_eq (ws' := [(h0, .inr (0, [.ref q1, .ref q2, .ref q3, .ref q4, .null])), (q1, .inl (Y.2 0, 4, .inl (fun j => Int32.ofInt ((rup (rup (rup (rup (zR) 0 100) 1 200) 2 300) 3 400 : Row) j)))), (q2, .inl (Y.2 0, 4, .inl (fun j => Int32.ofInt ((rup (rup (rup (rup (zR) 0 160) 1 260) 2 360) 3 460 : Row) j)))), (q3, .inl (Y.2 0, 4, .inl (fun j => Int32.ofInt ((rup (rup (rup (rup (zR) 0 5) 1 5) 2 5) 3 5 : Row) j)))), (q4, .inl (Y.2 0, 4, .inl (fun j => Int32.ofInt ((rup (rup (rup (rup (zR) 0 0) 1 0) 2 0) 3 0 : Row) j))))]) rfl ?_
  refine GW_aload 0 dX0_init_111 rfl rfl ?_
  refine GW_iconst dX0_init_112 ?_
  refine GW_newi (N := 4) dX0_init_113 ac_int rfl (Nat.le_of_ble_eq_true rfl) (Nat.le_of_ble_eq_true rfl) (Nat.le_of_ble_eq_true rfl) (Nat.le_of_ble_eq_true rfl) (fun q5 => ?_)
  refine GW_eq (ws' := [(h0, .inr (0, [.ref q1, .ref q2, .ref q3, .ref q4, .null])), (q1, .inl (Y.2 0, 4, .inl (fun j => Int32.ofInt ((rup (rup (rup (rup (zR) 0 100) 1 200) 2 300) 3 400 : Row) j)))), (q2, .inl (Y.2 0, 4, .inl (fun j => Int32.ofInt ((rup (rup (rup (rup (zR) 0 160) 1 260) 2 360) 3 460 : Row) j)))), (q3, .inl (Y.2 0, 4, .inl (fun j => Int32.ofInt ((rup (rup (rup (rup (zR) 0 5) 1 5) 2 5) 3 5 : Row) j)))), (q4, .inl (Y.2 0, 4, .inl (fun j => Int32.ofInt ((rup (rup (rup (rup (zR) 0 0) 1 0) 2 0) 3 0 : Row) j)))), (q5, .inl (Y.2 0, 4, .inl (fun j => Int32.ofInt ((zR : Row) j))))]) rfl ?_
  refine GW_dup dX0_init_115 ?_
  refine GW_iconst dX0_init_116 ?_
  refine GW_bipush dX0_init_117 (by decide) ?_
  refine GW_iast (i := 0) 5 dX0_init_119 rfl rfl (Nat.le_of_ble_eq_true rfl) (Nat.le_of_ble_eq_true rfl) ?_
  refine GW_eq (ws' := [(h0, .inr (0, [.ref q1, .ref q2, .ref q3, .ref q4, .null])), (q1, .inl (Y.2 0, 4, .inl (fun j => Int32.ofInt ((rup (rup (rup (rup (zR) 0 100) 1 200) 2 300) 3 400 : Row) j)))), (q2, .inl (Y.2 0, 4, .inl (fun j => Int32.ofInt ((rup (rup (rup (rup (zR) 0 160) 1 260) 2 360) 3 460 : Row) j)))), (q3, .inl (Y.2 0, 4, .inl (fun j => Int32.ofInt ((rup (rup (rup (rup (zR) 0 5) 1 5) 2 5) 3 5 : Row) j)))), (q4, .inl (Y.2 0, 4, .inl (fun j => Int32.ofInt ((rup (rup (rup (rup (zR) 0 0) 1 0) 2 0) 3 0 : Row) j)))), (q5, .inl (Y.2 0, 4, .inl (fun j => Int32.ofInt ((rup (zR) 0 15 : Row) j))))]) rfl ?_
  refine GW_dup dX0_init_120 ?_
  refine GW_iconst dX0_init_121 ?_
  refine GW_bipush dX0_init_122 (by decide) ?_
  refine GW_iast (i := 1) 5 dX0_init_124 rfl rfl (Nat.le_of_ble_eq_true rfl) (Nat.le_of_ble_eq_true rfl) ?_
  refine GW_eq (ws' := [(h0, .inr (0, [.ref q1, .ref q2, .ref q3, .ref q4, .null])), (q1, .inl (Y.2 0, 4, .inl (fun j => Int32.ofInt ((rup (rup (rup (rup (zR) 0 100) 1 200) 2 300) 3 400 : Row) j)))), (q2, .inl (Y.2 0, 4, .inl (fun j => Int32.ofInt ((rup (rup (rup (rup (zR) 0 160) 1 260) 2 360) 3 460 : Row) j)))), (q3, .inl (Y.2 0, 4, .inl (fun j => Int32.ofInt ((rup (rup (rup (rup (zR) 0 5) 1 5) 2 5) 3 5 : Row) j)))), (q4, .inl (Y.2 0, 4, .inl (fun j => Int32.ofInt ((rup (rup (rup (rup (zR) 0 0) 1 0) 2 0) 3 0 : Row) j)))), (q5, .inl (Y.2 0, 4, .inl (fun j => Int32.ofInt ((rup (rup (zR) 0 15) 1 15 : Row) j))))]) rfl ?_
  refine GW_dup dX0_init_125 ?_
  refine GW_iconst dX0_init_126 ?_
  refine GW_bipush dX0_init_127 (by decide) ?_
  refine GW_iast (i := 2) 5 dX0_init_129 rfl rfl (Nat.le_of_ble_eq_true rfl) (Nat.le_of_ble_eq_true rfl) ?_
  refine GW_eq (ws' := [(h0, .inr (0, [.ref q1, .ref q2, .ref q3, .ref q4, .null])), (q1, .inl (Y.2 0, 4, .inl (fun j => Int32.ofInt ((rup (rup (rup (rup (zR) 0 100) 1 200) 2 300) 3 400 : Row) j)))), (q2, .inl (Y.2 0, 4, .inl (fun j => Int32.ofInt ((rup (rup (rup (rup (zR) 0 160) 1 260) 2 360) 3 460 : Row) j)))), (q3, .inl (Y.2 0, 4, .inl (fun j => Int32.ofInt ((rup (rup (rup (rup (zR) 0 5) 1 5) 2 5) 3 5 : Row) j)))), (q4, .inl (Y.2 0, 4, .inl (fun j => Int32.ofInt ((rup (rup (rup (rup (zR) 0 0) 1 0) 2 0) 3 0 : Row) j)))), (q5, .inl (Y.2 0, 4, .inl (fun j => Int32.ofInt ((rup (rup (rup (zR) 0 15) 1 15) 2 15 : Row) j))))]) rfl ?_
  refine GW_dup dX0_init_130 ?_
  refine GW_iconst dX0_init_131 ?_
  refine GW_bipush dX0_init_132 (by decide) ?_
  refine GW_iast (i := 3) 5 dX0_init_134 rfl rfl (Nat.le_of_ble_eq_true rfl) (Nat.le_of_ble_eq_true rfl) ?_
  refine GW_eq (ws' := [(h0, .inr (0, [.ref q1, .ref q2, .ref q3, .ref q4, .null])), (q1, .inl (Y.2 0, 4, .inl (fun j => Int32.ofInt ((rup (rup (rup (rup (zR) 0 100) 1 200) 2 300) 3 400 : Row) j)))), (q2, .inl (Y.2 0, 4, .inl (fun j => Int32.ofInt ((rup (rup (rup (rup (zR) 0 160) 1 260) 2 360) 3 460 : Row) j)))), (q3, .inl (Y.2 0, 4, .inl (fun j => Int32.ofInt ((rup (rup (rup (rup (zR) 0 5) 1 5) 2 5) 3 5 : Row) j)))), (q4, .inl (Y.2 0, 4, .inl (fun j => Int32.ofInt ((rup (rup (rup (rup (zR) 0 0) 1 0) 2 0) 3 0 : Row) j)))), (q5, .inl (Y.2 0, 4, .inl (fun j => Int32.ofInt ((rup (rup (rup (rup (zR) 0 15) 1 15) 2 15) 3 15 : Row) j))))]) rfl ?_
  refine GW_putF 0 dX0_init_135 qX0_24 rfl rfl rfl (Nat.le_of_ble_eq_true rfl) ?_
  refine GW_eq (ws' := [(h0, .inr (0, [.ref q1, .ref q2, .ref q3, .ref q4, .ref q5])), (q1, .inl (Y.2 0, 4, .inl (fun j => Int32.ofInt ((rup (rup (rup (rup (zR) 0 100) 1 200) 2 300) 3 400 : Row) j)))), (q2, .inl (Y.2 0, 4, .inl (fun j => Int32.ofInt ((rup (rup (rup (rup (zR) 0 160) 1 260) 2 360) 3 460 : Row) j)))), (q3, .inl (Y.2 0, 4, .inl (fun j => Int32.ofInt ((rup (rup (rup (rup (zR) 0 5) 1 5) 2 5) 3 5 : Row) j)))), (q4, .inl (Y.2 0, 4, .inl (fun j => Int32.ofInt ((rup (rup (rup (rup (zR) 0 0) 1 0) 2 0) 3 0 : Row) j)))), (q5, .inl (Y.2 0, 4, .inl (fun j => Int32.ofInt ((rup (rup (rup (rup (zR) 0 15) 1 15) 2 15) 3 15 : Row) j))))]) rfl ?_
  refine GW_ret dX0_init_138 rfl (Nat.le_of_ble_eq_true rfl) (Nat.le_of_ble_eq_true rfl) ⟨lR [h0, q1, q2, q3, q4, q5] 0, sR [zR, rup (rup (rup (rup (zR) 0 100) 1 200) 2 300) 3 400, rup (rup (rup (rup (zR) 0 160) 1 260) 2 360) 3 460, rup (rup (rup (rup (zR) 0 5) 1 5) 2 5) 3 5, rup (rup (rup (rup (zR) 0 0) 1 0) 2 0) 3 0, rup (rup (rup (rup (zR) 0 15) 1 15) 2 15) 3 15], rfl, ?_, ?_⟩
  · simp only [am_ws, TA, List.mapIdx_cons, List.mapIdx_nil]
    rfl
  · intro a ha
    rcases (show a = 0 ∨ a = 1 ∨ a = 2 ∨ a = 3 by omega) with rfl | rfl | rfl | rfl
    · exact ⟨rfl, rfl, rfl, rfl, rfl⟩
    · exact ⟨rfl, rfl, rfl, rfl, rfl⟩
    · exact ⟨rfl, rfl, rfl, rfl, rfl⟩
    · exact ⟨rfl, rfl, rfl, rfl, rfl⟩
theorem nX2 : Ctor mX2_init 2 [.int 0, .int 0, .null, .null, .null, .null, .null, .null, .int 0, .int 0, .int 0] TP PTr := by
  refine Ctor.of (by decide) rfl (Nat.le_of_ble_eq_true rfl) (fun Y h0 => ?_)
  refine GW_aload 0 dX2_init_0 rfl rfl ?_
  refine GW_obj dX2_init_1 oiX2 oi_2 oi_3 (Nat.le_of_ble_eq_true rfl) (Nat.le_of_ble_eq_true rfl) ?_
  refine GW_aload 0 dX2_init_4 rfl rfl ?_
  refine GW_iconst dX2_init_5 ?_
  refine GW_put 0 dX2_init_6 pX2_9 rfl rfl rfl (Nat.le_of_ble_eq_true rfl) ?_
  refine GW_eq (ws' := [(h0, .inr (2, [.int (Int32.ofInt 0), .int 0, .null, .null, .null, .null, .null, .null, .int 0, .int 0, .int 0]))]) rfl ?_
  refine GW_aload 0 dX2_init_9 rfl rfl ?_
  refine GW_iconst dX2_init_10 ?_
  refine GW_put 0 dX2_init_11 pX2_15 rfl rfl rfl (Nat.le_of_ble_eq_true rfl) ?_
  refine GW_eq (ws' := [(h0, .inr (2, [.int (Int32.ofInt 0), .int (Int32.ofInt 0), .null, .null, .null, .null, .null, .null, .int 0, .int 0, .int 0]))]) rfl ?_
  refine GW_aload 0 dX2_init_14 rfl rfl ?_
  refine GW_sipush dX2_init_15 (by decide) ?_
  refine GW_newi (N := 400) dX2_init_18 ac_int rfl (Nat.le_of_ble_eq_true rfl) (Nat.le_of_ble_eq_true rfl) (Nat.le_of_ble_eq_true rfl) (Nat.le_of_ble_eq_true rfl) (fun q1 => ?_)
  refine GW_eq (ws' := [(h0, .inr (2, [.int (Int32.ofInt 0), .int (Int32.ofInt 0), .null, .null, .null, .null, .null, .null, .int 0, .int 0, .int 0])), (q1, .inl (Y.2 0, 400, .inl (fun j => Int32.ofInt ((zR : Row) j))))]) rfl ?_
  refine GW_putF 0 dX2_init_20 qX2_18 rfl rfl rfl (Nat.le_of_ble_eq_true rfl) ?_
  refine GW_eq (ws' := [(h0, .inr (2, [.int (Int32.ofInt 0), .int (Int32.ofInt 0), .ref q1, .null, .null, .null, .null, .null, .int 0, .int 0, .int 0])), (q1, .inl (Y.2 0, 400, .inl (fun j => Int32.ofInt ((zR : Row) j))))]) rfl ?_
  refine GW_aload 0 dX2_init_23 rfl rfl ?_
  refine GW_bipush dX2_init_24 (by decide) ?_
  refine GW_newi (N := 20) dX2_init_26 ac_int rfl (Nat.le_of_ble_eq_true rfl) (Nat.le_of_ble_eq_true rfl) (Nat.le_of_ble_eq_true rfl) (Nat.le_of_ble_eq_true rfl) (fun q2 => ?_)
  refine GW_eq (ws' := [(h0, .inr (2, [.int (Int32.ofInt 0), .int (Int32.ofInt 0), .ref q1, .null, .null, .null, .null, .null, .int 0, .int 0, .int 0])), (q1, .inl (Y.2 0, 400, .inl (fun j => Int32.ofInt ((zR : Row) j)))), (q2, .inl (Y.2 0, 20, .inl (fun j => Int32.ofInt ((zR : Row) j))))]) rfl ?_
  refine GW_putF 0 dX2_init_28 qX2_22 rfl rfl rfl (Nat.le_of_ble_eq_true rfl) ?_
  refine GW_eq (ws' := [(h0, .inr (2, [.int (Int32.ofInt 0), .int (Int32.ofInt 0), .ref q1, .ref q2, .null, .null, .null, .null, .int 0, .int 0, .int 0])), (q1, .inl (Y.2 0, 400, .inl (fun j => Int32.ofInt ((zR : Row) j)))), (q2, .inl (Y.2 0, 20, .inl (fun j => Int32.ofInt ((zR : Row) j))))]) rfl ?_
  refine GW_aload 0 dX2_init_31 rfl rfl ?_
  refine GW_bipush dX2_init_32 (by decide) ?_
  refine GW_newi (N := 20) dX2_init_34 ac_int rfl (Nat.le_of_ble_eq_true rfl) (Nat.le_of_ble_eq_true rfl) (Nat.le_of_ble_eq_true rfl) (Nat.le_of_ble_eq_true rfl) (fun q3 => ?_)
  refine GW_eq (ws' := [(h0, .inr (2, [.int (Int32.ofInt 0), .int (Int32.ofInt 0), .ref q1, .ref q2, .null, .null, .null, .null, .int 0, .int 0, .int 0])), (q1, .inl (Y.2 0, 400, .inl (fun j => Int32.ofInt ((zR : Row) j)))), (q2, .inl (Y.2 0, 20, .inl (fun j => Int32.ofInt ((zR : Row) j)))), (q3, .inl (Y.2 0, 20, .inl (fun j => Int32.ofInt ((zR : Row) j))))]) rfl ?_
  refine GW_putF 0 dX2_init_36 qX2_25 rfl rfl rfl (Nat.le_of_ble_eq_true rfl) ?_
  refine GW_eq (ws' := [(h0, .inr (2, [.int (Int32.ofInt 0), .int (Int32.ofInt 0), .ref q1, .ref q2, .ref q3, .null, .null, .null, .int 0, .int 0, .int 0])), (q1, .inl (Y.2 0, 400, .inl (fun j => Int32.ofInt ((zR : Row) j)))), (q2, .inl (Y.2 0, 20, .inl (fun j => Int32.ofInt ((zR : Row) j)))), (q3, .inl (Y.2 0, 20, .inl (fun j => Int32.ofInt ((zR : Row) j))))]) rfl ?_
  refine GW_aload 0 dX2_init_39 rfl rfl ?_
  refine GW_sipush dX2_init_40 (by decide) ?_
  refine GW_newi (N := 1204) dX2_init_43 ac_int rfl (Nat.le_of_ble_eq_true rfl) (Nat.le_of_ble_eq_true rfl) (Nat.le_of_ble_eq_true rfl) (Nat.le_of_ble_eq_true rfl) (fun q4 => ?_)
  refine GW_eq (ws' := [(h0, .inr (2, [.int (Int32.ofInt 0), .int (Int32.ofInt 0), .ref q1, .ref q2, .ref q3, .null, .null, .null, .int 0, .int 0, .int 0])), (q1, .inl (Y.2 0, 400, .inl (fun j => Int32.ofInt ((zR : Row) j)))), (q2, .inl (Y.2 0, 20, .inl (fun j => Int32.ofInt ((zR : Row) j)))), (q3, .inl (Y.2 0, 20, .inl (fun j => Int32.ofInt ((zR : Row) j)))), (q4, .inl (Y.2 0, 1204, .inl (fun j => Int32.ofInt ((zR : Row) j))))]) rfl ?_
  refine GW_putF 0 dX2_init_45 qX2_28 rfl rfl rfl (Nat.le_of_ble_eq_true rfl) ?_
  refine GW_eq (ws' := [(h0, .inr (2, [.int (Int32.ofInt 0), .int (Int32.ofInt 0), .ref q1, .ref q2, .ref q3, .ref q4, .null, .null, .int 0, .int 0, .int 0])), (q1, .inl (Y.2 0, 400, .inl (fun j => Int32.ofInt ((zR : Row) j)))), (q2, .inl (Y.2 0, 20, .inl (fun j => Int32.ofInt ((zR : Row) j)))), (q3, .inl (Y.2 0, 20, .inl (fun j => Int32.ofInt ((zR : Row) j)))), (q4, .inl (Y.2 0, 1204, .inl (fun j => Int32.ofInt ((zR : Row) j))))]) rfl ?_
  refine GW_aload 0 dX2_init_48 rfl rfl ?_
  refine GW_bipush dX2_init_49 (by decide) ?_
  refine GW_newi (N := 20) dX2_init_51 ac_int rfl (Nat.le_of_ble_eq_true rfl) (Nat.le_of_ble_eq_true rfl) (Nat.le_of_ble_eq_true rfl) (Nat.le_of_ble_eq_true rfl) (fun q5 => ?_)
  refine GW_eq (ws' := [(h0, .inr (2, [.int (Int32.ofInt 0), .int (Int32.ofInt 0), .ref q1, .ref q2, .ref q3, .ref q4, .null, .null, .int 0, .int 0, .int 0])), (q1, .inl (Y.2 0, 400, .inl (fun j => Int32.ofInt ((zR : Row) j)))), (q2, .inl (Y.2 0, 20, .inl (fun j => Int32.ofInt ((zR : Row) j)))), (q3, .inl (Y.2 0, 20, .inl (fun j => Int32.ofInt ((zR : Row) j)))), (q4, .inl (Y.2 0, 1204, .inl (fun j => Int32.ofInt ((zR : Row) j)))), (q5, .inl (Y.2 0, 20, .inl (fun j => Int32.ofInt ((zR : Row) j))))]) rfl ?_
  refine GW_putF 0 dX2_init_53 qX2_31 rfl rfl rfl (Nat.le_of_ble_eq_true rfl) ?_
  refine GW_eq (ws' := [(h0, .inr (2, [.int (Int32.ofInt 0), .int (Int32.ofInt 0), .ref q1, .ref q2, .ref q3, .ref q4, .ref q5, .null, .int 0, .int 0, .int 0])), (q1, .inl (Y.2 0, 400, .inl (fun j => Int32.ofInt ((zR : Row) j)))), (q2, .inl (Y.2 0, 20, .inl (fun j => Int32.ofInt ((zR : Row) j)))), (q3, .inl (Y.2 0, 20, .inl (fun j => Int32.ofInt ((zR : Row) j)))), (q4, .inl (Y.2 0, 1204, .inl (fun j => Int32.ofInt ((zR : Row) j)))), (q5, .inl (Y.2 0, 20, .inl (fun j => Int32.ofInt ((zR : Row) j))))]) rfl ?_
  refine GW_aload 0 dX2_init_56 rfl rfl ?_
  refine GW_bipush dX2_init_57 (by decide) ?_
  refine GW_newi (N := 20) dX2_init_59 ac_int rfl (Nat.le_of_ble_eq_true rfl) (Nat.le_of_ble_eq_true rfl) (Nat.le_of_ble_eq_true rfl) (Nat.le_of_ble_eq_true rfl) (fun q6 => ?_)
  refine GW_eq (ws' := [(h0, .inr (2, [.int (Int32.ofInt 0), .int (Int32.ofInt 0), .ref q1, .ref q2, .ref q3, .ref q4, .ref q5, .null, .int 0, .int 0, .int 0])), (q1, .inl (Y.2 0, 400, .inl (fun j => Int32.ofInt ((zR : Row) j)))), (q2, .inl (Y.2 0, 20, .inl (fun j => Int32.ofInt ((zR : Row) j)))), (q3, .inl (Y.2 0, 20, .inl (fun j => Int32.ofInt ((zR : Row) j)))), (q4, .inl (Y.2 0, 1204, .inl (fun j => Int32.ofInt ((zR : Row) j)))), (q5, .inl (Y.2 0, 20, .inl (fun j => Int32.ofInt ((zR : Row) j)))), (q6, .inl (Y.2 0, 20, .inl (fun j => Int32.ofInt ((zR : Row) j))))]) rfl ?_
  refine GW_putF 0 dX2_init_61 qX2_34 rfl rfl rfl (Nat.le_of_ble_eq_true rfl) ?_
  refine GW_eq (ws' := [(h0, .inr (2, [.int (Int32.ofInt 0), .int (Int32.ofInt 0), .ref q1, .ref q2, .ref q3, .ref q4, .ref q5, .ref q6, .int 0, .int 0, .int 0])), (q1, .inl (Y.2 0, 400, .inl (fun j => Int32.ofInt ((zR : Row) j)))), (q2, .inl (Y.2 0, 20, .inl (fun j => Int32.ofInt ((zR : Row) j)))), (q3, .inl (Y.2 0, 20, .inl (fun j => Int32.ofInt ((zR : Row) j)))), (q4, .inl (Y.2 0, 1204, .inl (fun j => Int32.ofInt ((zR : Row) j)))), (q5, .inl (Y.2 0, 20, .inl (fun j => Int32.ofInt ((zR : Row) j)))), (q6, .inl (Y.2 0, 20, .inl (fun j => Int32.ofInt ((zR : Row) j))))]) rfl ?_
  refine GW_aload 0 dX2_init_64 rfl rfl ?_
  refine GW_iconst dX2_init_65 ?_
  refine GW_put 0 dX2_init_66 pX2_37 rfl rfl rfl (Nat.le_of_ble_eq_true rfl) ?_
  refine GW_eq (ws' := [(h0, .inr (2, [.int (Int32.ofInt 0), .int (Int32.ofInt 0), .ref q1, .ref q2, .ref q3, .ref q4, .ref q5, .ref q6, .int (Int32.ofInt 0), .int 0, .int 0])), (q1, .inl (Y.2 0, 400, .inl (fun j => Int32.ofInt ((zR : Row) j)))), (q2, .inl (Y.2 0, 20, .inl (fun j => Int32.ofInt ((zR : Row) j)))), (q3, .inl (Y.2 0, 20, .inl (fun j => Int32.ofInt ((zR : Row) j)))), (q4, .inl (Y.2 0, 1204, .inl (fun j => Int32.ofInt ((zR : Row) j)))), (q5, .inl (Y.2 0, 20, .inl (fun j => Int32.ofInt ((zR : Row) j)))), (q6, .inl (Y.2 0, 20, .inl (fun j => Int32.ofInt ((zR : Row) j))))]) rfl ?_
  refine GW_aload 0 dX2_init_69 rfl rfl ?_
  refine GW_iconst dX2_init_70 ?_
  refine GW_put 0 dX2_init_71 pX2_40 rfl rfl rfl (Nat.le_of_ble_eq_true rfl) ?_
  refine GW_eq (ws' := [(h0, .inr (2, [.int (Int32.ofInt 0), .int (Int32.ofInt 0), .ref q1, .ref q2, .ref q3, .ref q4, .ref q5, .ref q6, .int (Int32.ofInt 0), .int (Int32.ofInt 0), .int 0])), (q1, .inl (Y.2 0, 400, .inl (fun j => Int32.ofInt ((zR : Row) j)))), (q2, .inl (Y.2 0, 20, .inl (fun j => Int32.ofInt ((zR : Row) j)))), (q3, .inl (Y.2 0, 20, .inl (fun j => Int32.ofInt ((zR : Row) j)))), (q4, .inl (Y.2 0, 1204, .inl (fun j => Int32.ofInt ((zR : Row) j)))), (q5, .inl (Y.2 0, 20, .inl (fun j => Int32.ofInt ((zR : Row) j)))), (q6, .inl (Y.2 0, 20, .inl (fun j => Int32.ofInt ((zR : Row) j))))]) rfl ?_
  refine GW_aload 0 dX2_init_74 rfl rfl ?_
  refine GW_iconst dX2_init_75 ?_
  refine GW_put 0 dX2_init_76 pX2_43 rfl rfl rfl (Nat.le_of_ble_eq_true rfl) ?_
  refine GW_eq (ws' := [(h0, .inr (2, [.int (Int32.ofInt 0), .int (Int32.ofInt 0), .ref q1, .ref q2, .ref q3, .ref q4, .ref q5, .ref q6, .int (Int32.ofInt 0), .int (Int32.ofInt 0), .int (Int32.ofInt 0)])), (q1, .inl (Y.2 0, 400, .inl (fun j => Int32.ofInt ((zR : Row) j)))), (q2, .inl (Y.2 0, 20, .inl (fun j => Int32.ofInt ((zR : Row) j)))), (q3, .inl (Y.2 0, 20, .inl (fun j => Int32.ofInt ((zR : Row) j)))), (q4, .inl (Y.2 0, 1204, .inl (fun j => Int32.ofInt ((zR : Row) j)))), (q5, .inl (Y.2 0, 20, .inl (fun j => Int32.ofInt ((zR : Row) j)))), (q6, .inl (Y.2 0, 20, .inl (fun j => Int32.ofInt ((zR : Row) j))))]) rfl ?_
  refine GW_ret dX2_init_79 rfl (Nat.le_of_ble_eq_true rfl) (Nat.le_of_ble_eq_true rfl) ⟨lR [h0, q1, q2, q3, q4, q5, q6] 0, sR [zR, zR, zR, zR, zR, zR, zR], rfl, ?_, ?_⟩
  · simp only [am_ws, TP, List.mapIdx_cons, List.mapIdx_nil]
    rfl
  · exact trivial
theorem nX5 : Ctor mX5_init 5 [.null, .null] TR PTr := by
  refine Ctor.of (by decide) rfl (Nat.le_of_ble_eq_true rfl) (fun Y h0 => ?_)
  refine GW_aload 0 dX5_init_0 rfl rfl ?_
  refine GW_obj dX5_init_1 oiX5 oi_2 oi_3 (Nat.le_of_ble_eq_true rfl) (Nat.le_of_ble_eq_true rfl) ?_
  refine GW_aload 0 dX5_init_4 rfl rfl ?_
  refine GW_bipush dX5_init_5 (by decide) ?_
  refine GW_newi (N := 20) dX5_init_7 ac_int rfl (Nat.le_of_ble_eq_true rfl) (Nat.le_of_ble_eq_true rfl) (Nat.le_of_ble_eq_true rfl) (Nat.le_of_ble_eq_true rfl) (fun q1 => ?_)
  refine GW_eq (ws' := [(h0, .inr (5, [.null, .null])), (q1, .inl (Y.2 0, 20, .inl (fun j => Int32.ofInt ((zR : Row) j))))]) rfl ?_
  refine GW_putF 0 dX5_init_9 qX5_9 rfl rfl rfl (Nat.le_of_ble_eq_true rfl) ?_
  refine GW_eq (ws' := [(h0, .inr (5, [.ref q1, .null])), (q1, .inl (Y.2 0, 20, .inl (fun j => Int32.ofInt ((zR : Row) j))))]) rfl ?_
  refine GW_aload 0 dX5_init_12 rfl rfl ?_
  refine GW_bipush dX5_init_13 (by decide) ?_
  refine GW_newi (N := 18) dX5_init_15 ac_int rfl (Nat.le_of_ble_eq_true rfl) (Nat.le_of_ble_eq_true rfl) (Nat.le_of_ble_eq_true rfl) (Nat.le_of_ble_eq_true rfl) (fun q2 => ?_)
  refine GW_eq (ws' := [(h0, .inr (5, [.ref q1, .null])), (q1, .inl (Y.2 0, 20, .inl (fun j => Int32.ofInt ((zR : Row) j)))), (q2, .inl (Y.2 0, 18, .inl (fun j => Int32.ofInt ((zR : Row) j))))]) rfl ?_
  refine GW_putF 0 dX5_init_17 qX5_15 rfl rfl rfl (Nat.le_of_ble_eq_true rfl) ?_
  refine GW_eq (ws' := [(h0, .inr (5, [.ref q1, .ref q2])), (q1, .inl (Y.2 0, 20, .inl (fun j => Int32.ofInt ((zR : Row) j)))), (q2, .inl (Y.2 0, 18, .inl (fun j => Int32.ofInt ((zR : Row) j))))]) rfl ?_
  refine GW_ret dX5_init_20 rfl (Nat.le_of_ble_eq_true rfl) (Nat.le_of_ble_eq_true rfl) ⟨lR [h0, q1, q2] 0, sR [zR, zR, zR], rfl, ?_, ?_⟩
  · simp only [am_ws, TR, List.mapIdx_cons, List.mapIdx_nil]
    rfl
  · exact trivial
