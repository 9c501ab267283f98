-- ===== the law from its entry =====
theorem lkL_9i : Cond.methodLink RL 9 yX6_init ∈ am_tb := (in_tb 52 (by decide +kernel) rfl)
theorem lkL_12i : Cond.methodLink RL 12 yX7_init ∈ am_tb := (in_tb 619 (by decide +kernel) rfl)
theorem nw_60 : Cond.methodLinkNest "BeltArms" 11 yX3_init "BeltArms" ∈ lw_tbl := List.mem_of_getElem? (i := 60) (by decide +kernel)
theorem nw_96 : Cond.methodLinkNest "BeltArms$State" 20 yX4_init "BeltArms" ∈ lw_tbl := List.mem_of_getElem? (i := 96) (by decide +kernel)
theorem nw_134 : Cond.methodLinkNest "BeltArms$State" 27 yX0_init "BeltArms" ∈ lw_tbl := List.mem_of_getElem? (i := 134) (by decide +kernel)
theorem nw_191 : Cond.methodLinkNest "BeltArms" 26 yX2_init "BeltArms" ∈ lw_tbl := List.mem_of_getElem? (i := 191) (by decide +kernel)
theorem nw_233 : Cond.methodLinkNest "BeltArms" 36 yX5_init "BeltArms" ∈ lw_tbl := List.mem_of_getElem? (i := 233) (by decide +kernel)
theorem nw_201 : Cond.fieldLinkNest "BeltArms$Trays" 49 "BeltArms$Plan" "slotOf" "[I" "BeltArms" ∈ lw_tbl := List.mem_of_getElem? (i := 201) (by decide +kernel)
theorem nw_543 : Cond.methodLinkNest "BeltArms$Arms" 33 yX6_isWithin "BeltArms" ∈ lw_tbl := List.mem_of_getElem? (i := 543) (by decide +kernel)
theorem nw_188 : Cond.arrayOver (.object "BeltArms$State") ∈ lw_tbl := List.mem_of_getElem? (i := 188) (by decide +kernel)
theorem lw_K {p : Program} {s : State} {m : MethodId} {meth : Method} {c : Code} {b L : Nat} {xs : Nat → Int32} (C : lw_At p s m meth c b L xs) : ∃ Y : ct_Y, ct_K Y s := by
  have hT := lw_T C
  have hts := C.2.2.2.2.2.1
  obtain ⟨c0, i0, h0⟩ := u_known (C := RX0) (T := TX0) (N := 5) (n := 5) hT wtX0 (hT _ inX0)
  obtain ⟨c1, i1, h1⟩ := u_known (C := RX1) (T := TX1) (N := 5) (n := 5) hT wtX1 (hT _ inX1)
  obtain ⟨c2, i2, h2⟩ := u_known (C := RX2) (T := TX2) (N := 11) (n := 11) hT wtX2 (hT _ inX2)
  obtain ⟨c3, i3, h3⟩ := u_known (C := RX3) (T := TX3) (N := 5) (n := 5) hT wtX3 (hT _ inX3)
  obtain ⟨c4, i4, h4⟩ := u_known (C := RX4) (T := TX4) (N := 6) (n := 6) hT wtX4 (hT _ inX4)
  obtain ⟨c5, i5, h5⟩ := u_known (C := RX5) (T := TX5) (N := 2) (n := 2) hT wtX5 (hT _ inX5)
  obtain ⟨c6, i6, h6⟩ := u_known (C := RX6) (T := TX6) (N := 7) (n := 7) hT wtX6 (hT _ inX6)
  obtain ⟨c7, i7, h7⟩ := u_known (C := RX7) (T := TX7) (N := 16) (n := 16) hT wtX7 (hT _ inX7)
  obtain ⟨a0, ka0, m0, r0, s0, t0⟩ := Cond.arrayClass_spec (hT _ ac_int)
  obtain ⟨a1, ka1, m1, r1, s1, t1⟩ := Cond.arrayClass_spec (hT _ ac_boolean)
  obtain ⟨a2, ka2, m2, r2, s2, t2⟩ := Cond.arrayClass_spec (hT _ ac_long)
  obtain ⟨m3, a3, ka3, u1, u2, u3, u4, u5⟩ := Cond.arrayOver_spec (hts _ nw_188)
  refine ⟨((fun k => [c0, c1, c2, c3, c4, c5, c6, c7].getD k c0, fun k => [i0, i1, i2, i3, i4, i5, i6, i7].getD k i0), fun k => [a0, a1, a2, a3].getD k a0), ⟨fun k q hq => ?_, fun k q hq => ?_⟩, ⟨va_Nw.of rfl (hts _ nw_201), va_Nw.of rfl (hts _ nw_543)⟩, va_AO.of (hts _ nw_188), va_Nw.of rfl (hts _ nw_60), va_Nw.of rfl (hts _ nw_96), va_Nw.of rfl (hts _ nw_134), va_Nw.of rfl (hts _ nw_191), va_Nw.of rfl (hts _ nw_233)⟩
  · match k, hq with
    | 0, hq => have hq' : some ((RX0, TX0, 5) : vw_C) = some q := hq; cases hq'; exact h0
    | 1, hq => have hq' : some ((RX1, TX1, 5) : vw_C) = some q := hq; cases hq'; exact h1
    | 2, hq => have hq' : some ((RX2, TX2, 11) : vw_C) = some q := hq; cases hq'; exact h2
    | 3, hq => have hq' : some ((RX3, TX3, 5) : vw_C) = some q := hq; cases hq'; exact h3
    | 4, hq => have hq' : some ((RX4, TX4, 6) : vw_C) = some q := hq; cases hq'; exact h4
    | 5, hq => have hq' : some ((RX5, TX5, 2) : vw_C) = some q := hq; cases hq'; exact h5
    | 6, hq => have hq' : some ((RX6, TX6, 7) : vw_C) = some q := hq; cases hq'; exact h6
    | 7, hq => have hq' : some ((RX7, TX7, 16) : vw_C) = some q := hq; cases hq'; exact h7
    | k + 8, hq => exact absurd (List.getElem?_eq_some_iff.mp hq).1 (by show ¬ k + 8 < 8; omega)
  · match k, hq with
    | 0, hq => have hq' : some ((a0, .int) : ClassId × FieldType) = some q := hq; cases hq'; exact ⟨fun n z => ⟨fun k h => (by cases h), ka0, s0, m0, t0⟩, r0⟩
    | 1, hq => have hq' : some ((a1, .boolean) : ClassId × FieldType) = some q := hq; cases hq'; exact ⟨fun n z => ⟨fun k h => (by cases h), ka1, s1, m1, t1⟩, r1⟩
    | 2, hq => have hq' : some ((a2, .long) : ClassId × FieldType) = some q := hq; cases hq'; exact ⟨fun n z => ⟨fun k h => (by cases h), ka2, s2, m2, t2⟩, r2⟩
    | 3, hq => have hq' : some ((a3, .object "BeltArms$State") : ClassId × FieldType) = some q := hq; cases hq'; exact ⟨fun n z => ⟨fun k h => (by cases h), ka3, u3, m3, u4⟩, ka3, m3, u3, u4, u1, u5⟩
    | k + 4, hq => exact absurd (List.getElem?_eq_some_iff.mp hq).1 (by show ¬ k + 4 < 4; omega)
theorem W_init {p : Program} {l : Launch} {e : Env} {s : State} {m : MethodId} {below : List Frame} {meth : Method} {c : Code} {b L : Nat} {xs : Nat → Int32} (C : lw_At p s m meth c b L xs) {Y : ct_Y} (K : ct_K Y s) {k n pc : Nat} {H : Heap} {locs : List Loc} {ls : Array Slot} {st : List Value} {ws : va_W} {Q : State → Prop} {y : am_M} {idx ci q : Nat} {fs : List Value} {T : List am_C} {P0 : am_S → Prop} (P : va_P Y.1 am_cl (ws ++ [(q, .inr (ci, fs))]) H) (D : va_D (fun x => s.heap.size ≤ x) (ws ++ [(q, .inr (ci, fs))])) (S : va_S (fun x => s.heap.size ≤ x) s.heap H locs) (V : ls.size = 4) (hd : decode code pc = .ok (.invokespecial idx, 3)) (hl : Cond.methodLink RL idx y.1 ∈ am_tb) (hcl : ct_cl y) (hfit : y.2.2.2.2.1.cells = y.2.2.2.2.2.1 ∧ y.2.2.2.2.1.slots = y.2.2.2.2.2.2 ∧ y.2.2.2.2.1.frames + 1 ≤ 10 ∧ 8 + (y.2.2.1 + 11) + y.2.2.2.2.1.locals ≤ 370 ∧ k + y.2.2.2.2.2.1 ≤ 86 ∧ n + y.2.2.2.2.2.2 ≤ 34414) (h4 : (st.map fun v => v.category).sum ≤ 8) (hc : Ctor y ci fs T P0) (kk : ∀ (f : Nat → Nat) (σ : am_S) (H1 : Heap) (locs1 : List Loc), f 0 = q → P0 σ → va_P Y.1 am_cl (ws ++ am_ws T (f, Y) σ) H1 → va_D (fun x => s.heap.size ≤ x) (ws ++ am_ws T (f, Y) σ) → va_S (fun x => s.heap.size ≤ x) s.heap H1 locs1 → W p l e room_1 s m #[Value.ref b] below meth c H1 locs1 (k + y.2.2.2.2.2.1) (n + y.2.2.2.2.2.2) Q (F0 m (pc + 3) ls st)) : W p l e room_1 s m #[Value.ref b] below meth c H locs k n Q (F0 m pc ls (.ref q :: st)) := by
  have hT := lw_T C
  have hts := C.2.2.2.2.2.1
  have hA : ∀ x, s.heap.size ≤ x → (fun x => s.heap.size ≤ x) x := fun _ h => h
  obtain ⟨k1, k2, k3, k4, k5, k6, k7⟩ := hcl
  obtain ⟨f1, f2, f3, f4, f5, f6⟩ := hfit
  obtain ⟨hF, hP1, -⟩ := ct_back (u := []) (H1 := H) hA P D S
  have hp : PreS s H (ct_P Y q H.size ci fs) [.ref q] := ⟨fun a U g mk h => ⟨h.1, h.2.1, h.2.2.1, ct_K.call h.2.2.2⟩, fun U hU hW => ⟨rfl, by rw [hU], by rw [hU]; exact hP1, ct_K.moved hW K⟩⟩
  have hlen : ∀ sig, parseMethodDescriptor y.1.desc = some sig → 0 = sig.parameters.length := fun sig h => by rw [h] at k5; exact (Option.some.inj k5).symm
  have hcw : ∀ w ∈ am_wd y, ∀ (a' : Array Value) (U : State), s.WarmedH U.vm → w.before a' U = true := by
    intro w hw a' U hW
    have hm : w ∈ am_tb := by
      rcases List.mem_cons.mp hw with rfl | h
      · exact k1
      · exact h
    exact word_at hW (lw_good w hm) (hT w hm)
  have k1' : Cond.code y.1 y.2.1 y.2.2.1 none ∈ am_tb := by rw [← k7]; exact k1
  have hmem : Cond.code y.1 y.2.1 y.2.2.1 none ∈ am_wd y := by rw [← k7]; exact List.mem_cons_self
  have hrun : va_Run p l e room_1 s m #[Value.ref b] below meth c H locs k n y.2.2.2.2.2.1 y.2.2.2.2.2.2 (F0 m pc ls (.ref q :: st)) st (ct_Q Y (ct_F Y q T P0) (va_A [(q, .inr (ci, fs))] H.size) (Value.ref q :: []).toArray) (va_A [(q, .inr (ci, fs))] H.size) :=
    va_runI (As := []) (rest := st) (b := q) (g := F0 m pc ls (.ref q :: st)) (own := RL) ⟨C.1, C.2.1, C.2.2.2.1, C.2.2.2.2.1, hts⟩ (hc l Y q H.size) ⟨⟨f1, f2, f3, f4, hcw, hmem, hT _ k1', hT _ k2, k4, hlen, hT _ hl⟩, k6, hT _ k3⟩ hp rfl rfl V rfl (lv_room h4) hd ⟨f5, f6⟩
  refine va_callv hrun S (fun x _ h => hF x h) hF (fun u t H1 locs1 ht hvm hw hB hz1 hk1 hS => ?_)
  obtain ⟨f, σ, hf0, rfl, hσ⟩ := hw
  rw [ht] at hB
  obtain ⟨-, -, hj⟩ := ct_back (u := am_ws T (f, Y) σ) (H1 := H1) hA P D S
  obtain ⟨P2, D2⟩ := hj hk1 hB.1 hB.2
  exact kk f σ H1 locs1 hf0 hσ P2 D2 hS
theorem whole_start {p : Program} {e : Env} {s : State} {m : MethodId} {below : List Frame} {meth : Method} {c : Code} (l : Launch) (hflags : l.flags = flags0) {b L : Nat} {xs : Nat → Int32} (hL : L ≤ 2560) (C0 : lw_At p s m meth c b L xs) : W p l e room_1 s m #[Value.ref b] below meth c s.heap [] 0 0 (lw_Z below #[Value.ref b] s) (entryFrame m ([Value.ref b] : List Value).toArray 4) := by
  have hT := lw_T C0
  obtain ⟨Y, K⟩ := lw_K C0
  have hA : ∀ q : Nat, s.heap.size ≤ q → (fun x => s.heap.size ≤ x) q := fun _ h => h
  have S0 : va_S (fun x => s.heap.size ≤ x) s.heap s.heap [] := va_S.rf
  have P0 : va_P Y.1 am_cl [] s.heap := fun k q h => by simp at h
  have D0 : va_D (fun x => s.heap.size ≤ x) ([] : va_W) := ⟨fun i j p q h => by simp at h, fun k q h => by simp at h⟩
  have hl := lv_entry ([.ref b]) (n := 4) (Nat.le_of_ble_eq_true rfl)
  rw [lg_entry_eq]
  generalize (lg_sl ([.ref b]) ++ List.replicate (4 - (lg_sl ([.ref b])).length) Slot.unset).toArray = ls at hl ⊢
  have hl : lv_has ls 4 [(0, .ref b)] := hl
  refine va_new (ci := 6) (fs := [.null, .null, .int 0, .null, .null, .null, .int 0]) (C := RX6) (T := TX6) (N := 7) (own := RL) C0.1 C0.2.1 hT wtX6 tyX6 tyX6_ok C0.2.2.2.2.1 (hT _ lkL_7) (hT _ inX6) (hT _ iiX6) K.1 P0 D0 S0 hA rfl (fun j hj => by rcases (show j = 0 ∨ j = 1 ∨ j = 2 ∨ j = 3 ∨ j = 4 ∨ j = 5 ∨ j = 6 by omega) with rfl | rfl | rfl | rfl | rfl | rfl | rfl <;> rfl) (Nat.le_of_ble_eq_true rfl) (Nat.le_of_ble_eq_true rfl) dL_law_0 (fun q0 H P1 D1 S1 => ?_)
  refine lv_dup C0.1 C0.2.1 dL_law_3 rfl ?_
  refine W_init C0 K P1 D1 S1 hl.1 dL_law_4 lkL_9i clX6 ⟨rfl, rfl, (Nat.le_of_ble_eq_true rfl), (Nat.le_of_ble_eq_true rfl), (Nat.le_of_ble_eq_true rfl), (Nat.le_of_ble_eq_true rfl)⟩ (Nat.le_of_ble_eq_true rfl) nX6 (fun f1 σ1 H1 locs1 hf1 hσ1 P2 D2 S2 => ?_)
  subst hf1
  refine lv_astore_n (lv' := [(1, .ref (f1 0)), (0, .ref b)]) C0.1 C0.2.1 dL_law_7 rfl hl (by decide) rfl (fun ls hl => ?_)
  refine va_new (ci := 7) (fs := [.null, .null, .null, .null, .null, .null, .null, .null, .null, .null, .null, .null, .null, .int 0, .null, .null]) (C := RX7) (T := TX7) (N := 16) (own := RL) C0.1 C0.2.1 hT wtX7 tyX7 tyX7_ok C0.2.2.2.2.1 (hT _ lkL_10) (hT _ inX7) (hT _ iiX7) K.1 P2 D2 S2 hA rfl (fun j hj => by rcases (show j = 0 ∨ j = 1 ∨ j = 2 ∨ j = 3 ∨ j = 4 ∨ j = 5 ∨ j = 6 ∨ j = 7 ∨ j = 8 ∨ j = 9 ∨ j = 10 ∨ j = 11 ∨ j = 12 ∨ j = 13 ∨ j = 14 ∨ j = 15 by omega) with rfl | rfl | rfl | rfl | rfl | rfl | rfl | rfl | rfl | rfl | rfl | rfl | rfl | rfl | rfl | rfl <;> rfl) (Nat.le_of_ble_eq_true rfl) (Nat.le_of_ble_eq_true rfl) dL_law_8 (fun q1 H2 P3 D3 S3 => ?_)
  refine lv_dup C0.1 C0.2.1 dL_law_11 rfl ?_
  refine W_init C0 K P3 D3 S3 hl.1 dL_law_12 lkL_12i clX7 ⟨rfl, rfl, (Nat.le_of_ble_eq_true rfl), (Nat.le_of_ble_eq_true rfl), (Nat.le_of_ble_eq_true rfl), (Nat.le_of_ble_eq_true rfl)⟩ (Nat.le_of_ble_eq_true rfl) nX7 (fun f2 σ2 H3 locs3 hf2 hσ2 P4 D4 S4 => ?_)
  subst hf2
  refine lv_astore_n (lv' := [(2, .ref (f2 0)), (1, .ref (f1 0)), (0, .ref b)]) C0.1 C0.2.1 dL_law_15 rfl hl (by decide) rfl (fun ls hl => ?_)
  refine lv_iconst (v := Int32.ofInt 0) C0.1 C0.2.1 dL_law_16 rfl ?_
  refine lv_istore_n (lv' := [(3, .int (Int32.ofInt 0)), (2, .ref (f2 0)), (1, .ref (f1 0)), (0, .ref b)]) C0.1 C0.2.1 dL_law_17 rfl hl (by decide) rfl (fun ls hl => ?_)
  have hw : ([] ++ am_ws TXX (f1, Y) σ1) ++ am_ws TM (f2, Y) σ2 = am_ws am_tab (c1 70 f1 f2, Y) (cS 70 σ1 σ2) := by
    have h := am_ws_c1 (T1 := TXX) (T2 := TM) (f := f1) (g := f2) (Y := Y) (σ := σ1) (τ := σ2) TXX_cl
    rw [TXX_len] at h
    rw [List.nil_append, tab_eq, h]
  rw [hw] at P4 D4
  have hE : ∀ k, k < 86 → s.heap.size ≤ (c1 70 f1 f2) k := fun k hk => D4.2 k _ (am_ws_get (T := am_tab) (E := (c1 70 f1 f2, Y)) (List.getElem?_eq_getElem (show k < am_tab.length from hk)))
  have hDA : va_D (am_A am_tab (c1 70 f1 f2, Y)) (am_ws am_tab (c1 70 f1 f2, Y) (cS 70 σ1 σ2)) := ⟨D4.1, fun i x hx => by
    have h1 : i < (am_ws am_tab (c1 70 f1 f2, Y) (cS 70 σ1 σ2)).length := (List.getElem?_eq_some_iff.mp hx).1
    unfold am_ws at h1 hx
    rw [List.length_mapIdx] at h1
    rw [List.getElem?_mapIdx, List.getElem?_eq_getElem h1] at hx
    cases hx
    exact ⟨i, h1, rfl⟩⟩
  have G : am_G am_tab (c1 70 f1 f2, Y) (cS 70 σ1 σ2) s H3 := ⟨P4, K.1, hDA, K.2.1⟩
  refine W.widen (k := 86) (n := 34414) (Nat.le_of_ble_eq_true rfl) (Nat.le_of_ble_eq_true rfl) ?_
  refine va_forget (fun q hq => S4.2.2 q hq) ?_
  have S' : va_S (am_A am_tab (c1 70 f1 f2, Y)) s.heap H3 [] := ⟨S4.1, fun q h1 h2 => S4.2.1 q h1 (Nat.not_le.mpr h1), fun _ h => by cases h⟩
  exact law_loop hL (L + 1) 0 _ (by omega) (by omega) (Inv_start hσ1 hσ2) (c1 70 f1 f2, Y) p l e s m below meth c H3 [] ls C0 G hE S' hl
