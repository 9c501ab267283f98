-- ===== tables in pieces =====
def tsC (b : Nat) (c : am_C) : am_C := match c with
  | .inl o => .inl (o.1, o.2.map (fun r => r.map (fun i => i + b)))
  | .inr (.inl a) => .inr (.inl a)
  | .inr (.inr rs) => .inr (.inr (rs.map (fun i => i + b)))
def tsh (b : Nat) (T : List am_C) : List am_C := T.map (tsC b)
def c1 {α : Type} (b : Nat) (f g : Nat → α) : Nat → α := fun k => if k < b then f k else g (k - b)
def cS (b : Nat) (σ τ : am_S) : am_S := (c1 b σ.1 τ.1, c1 b σ.2 τ.2)
theorem am_cell_sh {E : am_E} {σ : am_S} {b k : Nat} (c : am_C) : am_cell E σ (k + b) (tsC b c) = am_cell (fun i => E.1 (i + b), E.2) (shS σ b) k c := by
  rcases c with o | a | rs
  · have h : (o.2.map (fun r => r.map (fun i => i + b))).mapIdx (fun j f => am_fv E σ (k + b) j f) = o.2.mapIdx (fun j f => am_fv (fun i => E.1 (i + b), E.2) (shS σ b) k j f) := by
      apply List.ext_getElem?
      intro i
      rw [List.getElem?_mapIdx, List.getElem?_map, List.getElem?_mapIdx]
      cases o.2[i]? with
      | none => rfl
      | some r => cases r <;> rfl
    show (Sum.inr (o.1, _) : va_E) = Sum.inr (o.1, _)
    rw [h]
  · obtain ⟨t, n⟩ := a
    match t with
    | 0 => rfl
    | 1 => rfl
    | t + 2 => rfl
  · have h : (fun j : Nat => ((rs.map (fun i => i + b))[j]?).map E.1) = fun j : Nat => (rs[j]?).map (fun i => E.1 (i + b)) := by
      funext j
      rw [List.getElem?_map]
      cases rs[j]? <;> rfl
    show (Sum.inl (E.2.2 3, (rs.map (fun i => i + b)).length, _) : va_E) = Sum.inl (E.2.2 3, rs.length, _)
    rw [List.length_map, h]
theorem am_ws_app {T1 T2 : List am_C} {E : am_E} {σ : am_S} : am_ws (T1 ++ tsh T1.length T2) E σ = am_ws T1 E σ ++ am_ws T2 (fun i => E.1 (i + T1.length), E.2) (shS σ T1.length) := by
  unfold am_ws
  rw [List.mapIdx_append]
  congr 1
  apply List.ext_getElem?
  intro i
  unfold tsh
  rw [List.getElem?_mapIdx, List.getElem?_mapIdx, List.getElem?_map]
  cases T2[i]? with
  | none => rfl
  | some c =>
    show some (E.1 (i + T1.length), am_cell E σ (i + T1.length) (tsC T1.length c)) = _
    rw [am_cell_sh]
    rfl
def tcb (b : Nat) (c : am_C) : Bool := match c with
  | .inl o => o.2.all (fun r => match r with
    | none => true
    | some i => Nat.blt i b)
  | .inr (.inl _) => true
  | .inr (.inr rs) => rs.all (fun i => Nat.blt i b)
theorem am_cell_cg {f f' : Nat → Nat} {Y : ct_Y} {σ σ' : am_S} {b k : Nat} (c : am_C) (hc : tcb b c = true) (hk : k < b) (hf : ∀ i, i < b → f' i = f i) (h1 : ∀ i, i < b → σ'.1 i = σ.1 i) (h2 : ∀ i, i < b → σ'.2 i = σ.2 i) : am_cell (f', Y) σ' k c = am_cell (f, Y) σ k c := by
  rcases c with o | a | rs
  · have h : o.2.mapIdx (fun j r => am_fv (f', Y) σ' k j r) = o.2.mapIdx (fun j r => am_fv (f, Y) σ k j r) := by
      apply List.ext_getElem?
      intro i
      rw [List.getElem?_mapIdx, List.getElem?_mapIdx]
      cases e : o.2[i]? with
      | none => rfl
      | some r =>
        cases r with
        | none =>
          show some (Value.int (Int32.ofInt (σ'.1 k i))) = some (Value.int (Int32.ofInt (σ.1 k i)))
          rw [h1 k hk]
        | some r =>
          have hr := List.all_eq_true.mp hc (some r) (List.mem_of_getElem? e)
          show some (Value.ref (f' r)) = some (Value.ref (f r))
          rw [hf r (Nat.le_of_ble_eq_true hr)]
    show (Sum.inr (o.1, _) : va_E) = Sum.inr (o.1, _)
    rw [h]
  · obtain ⟨t, n⟩ := a
    match t with
    | 0 =>
      show (Sum.inl (Y.2 0, n, Sum.inl (fun j => Int32.ofInt (σ'.1 k j))) : va_E) = Sum.inl (Y.2 0, n, Sum.inl (fun j => Int32.ofInt (σ.1 k j)))
      rw [h1 k hk]
    | 1 =>
      show (Sum.inl (Y.2 1, n, Sum.inl (fun j => Int32.ofInt (σ'.1 k j))) : va_E) = Sum.inl (Y.2 1, n, Sum.inl (fun j => Int32.ofInt (σ.1 k j)))
      rw [h1 k hk]
    | t + 2 =>
      show (Sum.inl (Y.2 2, n, Sum.inr (Sum.inl (σ'.2 k))) : va_E) = Sum.inl (Y.2 2, n, Sum.inr (Sum.inl (σ.2 k)))
      rw [h2 k hk]
  · have h : (fun j : Nat => (rs[j]?).map f') = fun j : Nat => (rs[j]?).map f := by
      funext j
      cases e : rs[j]? with
      | none => rfl
      | some r =>
        have hr := List.all_eq_true.mp hc r (List.mem_of_getElem? e)
        show some (f' r) = some (f r)
        rw [hf r (Nat.le_of_ble_eq_true hr)]
    show (Sum.inl (Y.2 3, rs.length, Sum.inr (Sum.inr (Sum.inr (Sum.inr (fun j : Nat => (rs[j]?).map f'))))) : va_E) = Sum.inl (Y.2 3, rs.length, Sum.inr (Sum.inr (Sum.inr (Sum.inr (fun j : Nat => (rs[j]?).map f)))))
    rw [h]
theorem am_ws_cg {T : List am_C} {f f' : Nat → Nat} {Y : ct_Y} {σ σ' : am_S} {b : Nat} (hl : T.length ≤ b) (hc : T.all (tcb b) = true) (hf : ∀ i, i < b → f' i = f i) (h1 : ∀ i, i < b → σ'.1 i = σ.1 i) (h2 : ∀ i, i < b → σ'.2 i = σ.2 i) : am_ws T (f', Y) σ' = am_ws T (f, Y) σ := by
  apply List.ext_getElem?
  intro i
  unfold am_ws
  rw [List.getElem?_mapIdx, List.getElem?_mapIdx]
  cases e : T[i]? with
  | none => rfl
  | some c =>
    have hi : i < b := Nat.lt_of_lt_of_le (List.getElem?_eq_some_iff.mp e).1 hl
    show some (f' i, am_cell (f', Y) σ' i c) = some (f i, am_cell (f, Y) σ i c)
    rw [hf i hi, am_cell_cg c (List.all_eq_true.mp hc c (List.mem_of_getElem? e)) hi hf h1 h2]
theorem c1_hi {α : Type} {b : Nat} {f g : Nat → α} : (fun i => c1 b f g (i + b)) = g := by
  funext i
  unfold c1
  rw [if_neg (by omega), Nat.add_sub_cancel]
theorem cS_hi {b : Nat} {σ τ : am_S} : shS (cS b σ τ) b = τ := by
  refine Prod.ext ?_ ?_
  · funext k j
    show c1 b σ.1 τ.1 (k + b) j = τ.1 k j
    unfold c1
    rw [if_neg (by omega), Nat.add_sub_cancel]
  · funext k j
    show c1 b σ.2 τ.2 (k + b) j = τ.2 k j
    unfold c1
    rw [if_neg (by omega), Nat.add_sub_cancel]
theorem am_ws_top {T1 T2 : List am_C} {f g : Nat → Nat} {Y : ct_Y} {σ τ : am_S} : am_ws (T1 ++ tsh T1.length T2) (c1 T1.length f g, Y) (cS T1.length σ τ) = am_ws T1 (c1 T1.length f g, Y) (cS T1.length σ τ) ++ am_ws T2 (g, Y) τ := by
  rw [am_ws_app, cS_hi]
  show _ ++ am_ws T2 ((fun i => c1 T1.length f g (i + T1.length)), Y) τ = _
  rw [c1_hi]
theorem am_ws_c1 {T1 T2 : List am_C} {f g : Nat → Nat} {Y : ct_Y} {σ τ : am_S} (hc : T1.all (tcb T1.length) = true) : am_ws (T1 ++ tsh T1.length T2) (c1 T1.length f g, Y) (cS T1.length σ τ) = am_ws T1 (f, Y) σ ++ am_ws T2 (g, Y) τ := by
  rw [am_ws_top, am_ws_cg (f := f) (f' := c1 T1.length f g) (σ := σ) (σ' := cS T1.length σ τ) (Nat.le_refl _) hc (fun i hi => if_pos hi) (fun i hi => if_pos hi) (fun i hi => if_pos hi)]
def zR : Row := fun _ => 0
def lR {α : Type} (l : List α) (d : α) : Nat → α := fun k => l.getD k d
def sR (l : List Row) : am_S := (lR l zR, fun _ _ => 0)
def TB : List am_C := [.inl (1, [none, none, some 1, some 2, some 3]), .inr (.inl (0, 8)), .inr (.inl (0, 8)), .inr (.inl (0, 301))]
def TT : List am_C := [.inl (4, [none, some 1, some 2, some 3, some 4, some 5]), .inr (.inl (0, 20)), .inr (.inl (0, 20)), .inr (.inl (0, 20)), .inr (.inl (0, 20)), .inr (.inl (2, 100))]
def TA : List am_C := [.inl (0, [some 1, some 2, some 3, some 4, some 5]), .inr (.inl (0, 4)), .inr (.inl (0, 4)), .inr (.inl (0, 4)), .inr (.inl (0, 4)), .inr (.inl (0, 4))]
def TS1 : List am_C := [.inl (3, [some 1, some 5, some 11, none, none])]
def TS : List am_C := TS1 ++ tsh 1 (TB ++ tsh 4 (TT ++ tsh 6 TA))
def TP : List am_C := [.inl (2, [none, none, some 1, some 2, some 3, some 4, some 5, some 6, none, none, none]), .inr (.inl (0, 400)), .inr (.inl (0, 20)), .inr (.inl (0, 20)), .inr (.inl (0, 1204)), .inr (.inl (0, 20)), .inr (.inl (0, 20))]
def TR : List am_C := [.inl (5, [some 1, some 2]), .inr (.inl (0, 20)), .inr (.inl (0, 18))]
def TX1' : List am_C := [.inl (6, [some 2, some 1, none, some 53, some 60, some 67, none]), .inr (.inr [19, 36])]
def TXX : List am_C := TX1' ++ tsh 2 (TS ++ tsh 17 (TS ++ tsh 17 (TS ++ tsh 17 (TP ++ tsh 7 (TP ++ tsh 7 TR)))))
def TM : List am_C := [.inl (7, [some 1, some 2, some 3, some 4, some 5, some 6, some 7, some 8, some 9, some 10, some 11, some 12, some 13, none, some 14, some 15]), .inr (.inl (0, 6424)), .inr (.inl (0, 12848)), .inr (.inl (1, 2)), .inr (.inl (0, 301)), .inr (.inl (0, 6020)), .inr (.inl (0, 1204)), .inr (.inl (1, 1204)), .inr (.inl (1, 20)), .inr (.inl (0, 20)), .inr (.inl (0, 1204)), .inr (.inl (0, 20)), .inr (.inl (0, 20)), .inr (.inl (0, 20)), .inr (.inl (0, 18)), .inr (.inl (0, 20))]
theorem tab_eq : am_tab = TXX ++ tsh 70 TM := by decide +kernel
theorem TXX_len : TXX.length = 70 := by decide +kernel
theorem TXX_cl : TXX.all (tcb TXX.length) = true := by decide +kernel
theorem TS_cl : TS.all (tcb TS.length) = true := by decide +kernel
theorem TP_cl : TP.all (tcb TP.length) = true := by decide +kernel
theorem TB_cl : TB.all (tcb TB.length) = true := by decide +kernel
theorem TT_cl : TT.all (tcb TT.length) = true := by decide +kernel
-- ===== words of the constructors =====
abbrev mX1_init : am_M := (yX1_init, cX1_init, 1, none, { frames := 1, cells := 3, slots := 317, locals := 34 }, (3, 317))
theorem clX1 : ct_cl mX1_init := ⟨(in_tb 68 (by decide +kernel) rfl), (in_tb 40 (by decide +kernel) rfl), (in_tb 67 (by decide +kernel) rfl), by decide +kernel, by decide +kernel, rfl, rfl⟩
theorem oiX1 : Cond.methodLink RX1 3 objectInit ∈ am_tb := (in_tb 69 (by decide +kernel) rfl)
abbrev mX4_init : am_M := (yX4_init, cX4_init, 1, none, { frames := 1, cells := 5, slots := 180, locals := 34 }, (5, 180))
theorem clX4 : ct_cl mX4_init := ⟨(in_tb 98 (by decide +kernel) rfl), (in_tb 41 (by decide +kernel) rfl), (in_tb 97 (by decide +kernel) rfl), by decide +kernel, by decide +kernel, rfl, rfl⟩
theorem oiX4 : Cond.methodLink RX4 5 objectInit ∈ am_tb := (in_tb 99 (by decide +kernel) rfl)
abbrev mX0_init : am_M := (yX0_init, cX0_init, 1, none, { frames := 1, cells := 5, slots := 20, locals := 34 }, (5, 20))
theorem clX0 : ct_cl mX0_init := ⟨(in_tb 136 (by decide +kernel) rfl), (in_tb 42 (by decide +kernel) rfl), (in_tb 135 (by decide +kernel) rfl), by decide +kernel, by decide +kernel, rfl, rfl⟩
theorem oiX0 : Cond.methodLink RX0 3 objectInit ∈ am_tb := (in_tb 137 (by decide +kernel) rfl)
abbrev mX3_init : am_M := (yX3_init, cX3_init, 1, none, { frames := 2, cells := 16, slots := 533, locals := 68 }, (16, 533))
theorem clX3 : ct_cl mX3_init := ⟨(in_tb 62 (by decide +kernel) rfl), (in_tb 39 (by decide +kernel) rfl), (in_tb 61 (by decide +kernel) rfl), by decide +kernel, by decide +kernel, rfl, rfl⟩
theorem oiX3 : Cond.methodLink RX3 3 objectInit ∈ am_tb := (in_tb 63 (by decide +kernel) rfl)
abbrev mX2_init : am_M := (yX2_init, cX2_init, 1, none, { frames := 1, cells := 6, slots := 1684, locals := 34 }, (6, 1684))
theorem clX2 : ct_cl mX2_init := ⟨(in_tb 193 (by decide +kernel) rfl), (in_tb 43 (by decide +kernel) rfl), (in_tb 192 (by decide +kernel) rfl), by decide +kernel, by decide +kernel, rfl, rfl⟩
theorem oiX2 : Cond.methodLink RX2 3 objectInit ∈ am_tb := (in_tb 194 (by decide +kernel) rfl)
abbrev mX5_init : am_M := (yX5_init, cX5_init, 1, none, { frames := 1, cells := 2, slots := 38, locals := 34 }, (2, 38))
theorem clX5 : ct_cl mX5_init := ⟨(in_tb 235 (by decide +kernel) rfl), (in_tb 44 (by decide +kernel) rfl), (in_tb 234 (by decide +kernel) rfl), by decide +kernel, by decide +kernel, rfl, rfl⟩
theorem oiX5 : Cond.methodLink RX5 3 objectInit ∈ am_tb := (in_tb 236 (by decide +kernel) rfl)
abbrev mX6_init : am_M := (yX6_init, cX6_init, 1, none, { frames := 3, cells := 69, slots := 5046, locals := 102 }, (69, 5046))
theorem clX6 : ct_cl mX6_init := ⟨(in_tb 54 (by decide +kernel) rfl), (in_tb 38 (by decide +kernel) rfl), (in_tb 53 (by decide +kernel) rfl), by decide +kernel, by decide +kernel, rfl, rfl⟩
theorem oiX6 : Cond.methodLink RX6 3 objectInit ∈ am_tb := (in_tb 55 (by decide +kernel) rfl)
abbrev mX7_init : am_M := (yX7_init, cX7_init, 2, none, { frames := 1, cells := 15, slots := 29345, locals := 34 }, (15, 29345))
theorem clX7 : ct_cl mX7_init := ⟨(in_tb 621 (by decide +kernel) rfl), (in_tb 45 (by decide +kernel) rfl), (in_tb 620 (by decide +kernel) rfl), by decide +kernel, by decide +kernel, rfl, rfl⟩
theorem oiX7 : Cond.methodLink RX7 1 objectInit ∈ am_tb := (in_tb 622 (by decide +kernel) rfl)
theorem oi_2 : Cond.instanceMethod objectInit ∈ am_tb := (in_tb 56 (by decide +kernel) rfl)
theorem oi_3 : Cond.code objectInit ⟨#[0xb1]⟩ 1 none ∈ am_tb := (in_tb 57 (by decide +kernel) rfl)
theorem ac_int : Cond.arrayClass .int ∈ am_tb := (in_tb 93 (by decide +kernel) rfl)
theorem ac_boolean : Cond.arrayClass .boolean ∈ am_tb := (in_tb 672 (by decide +kernel) rfl)
theorem ac_long : Cond.arrayClass .long ∈ am_tb := (in_tb 131 (by decide +kernel) rfl)
theorem inX1 : Cond.instantiable RX1 5 ∈ am_tb := (in_tb 65 (by decide +kernel) rfl)
theorem iiX1 : Cond.initialized RX1 ∈ am_tb := (in_tb 40 (by decide +kernel) rfl)
theorem inX4 : Cond.instantiable RX4 6 ∈ am_tb := (in_tb 95 (by decide +kernel) rfl)
theorem iiX4 : Cond.initialized RX4 ∈ am_tb := (in_tb 41 (by decide +kernel) rfl)
theorem inX0 : Cond.instantiable RX0 5 ∈ am_tb := (in_tb 133 (by decide +kernel) rfl)
theorem iiX0 : Cond.initialized RX0 ∈ am_tb := (in_tb 42 (by decide +kernel) rfl)
theorem inX3 : Cond.instantiable RX3 5 ∈ am_tb := (in_tb 59 (by decide +kernel) rfl)
theorem iiX3 : Cond.initialized RX3 ∈ am_tb := (in_tb 39 (by decide +kernel) rfl)
theorem inX2 : Cond.instantiable RX2 11 ∈ am_tb := (in_tb 190 (by decide +kernel) rfl)
theorem iiX2 : Cond.initialized RX2 ∈ am_tb := (in_tb 43 (by decide +kernel) rfl)
theorem inX5 : Cond.instantiable RX5 2 ∈ am_tb := (in_tb 232 (by decide +kernel) rfl)
theorem iiX5 : Cond.initialized RX5 ∈ am_tb := (in_tb 44 (by decide +kernel) rfl)
theorem inX6 : Cond.instantiable RX6 7 ∈ am_tb := (in_tb 51 (by decide +kernel) rfl)
theorem iiX6 : Cond.initialized RX6 ∈ am_tb := (in_tb 38 (by decide +kernel) rfl)
theorem inX7 : Cond.instantiable RX7 16 ∈ am_tb := (in_tb 618 (by decide +kernel) rfl)
theorem iiX7 : Cond.initialized RX7 ∈ am_tb := (in_tb 45 (by decide +kernel) rfl)
theorem lkL_7 : Cond.classLink RL 7 RX6 ∈ am_tb := (in_tb 50 (by decide +kernel) rfl)
theorem lkX6_9 : Cond.classLink RX6 9 RX3 ∈ am_tb := (in_tb 58 (by decide +kernel) rfl)
theorem lkX3_9 : Cond.classLink RX3 9 RX1 ∈ am_tb := (in_tb 64 (by decide +kernel) rfl)
theorem lkX3_18 : Cond.classLink RX3 18 RX4 ∈ am_tb := (in_tb 94 (by decide +kernel) rfl)
theorem lkX3_25 : Cond.classLink RX3 25 RX0 ∈ am_tb := (in_tb 132 (by decide +kernel) rfl)
theorem lkX6_24 : Cond.classLink RX6 24 RX2 ∈ am_tb := (in_tb 189 (by decide +kernel) rfl)
theorem lkX6_34 : Cond.classLink RX6 34 RX5 ∈ am_tb := (in_tb 231 (by decide +kernel) rfl)
theorem lkL_10 : Cond.classLink RL 10 RX7 ∈ am_tb := (in_tb 617 (by decide +kernel) rfl)
theorem qX1_18 : am_fF RX1 18 1 2 (.array .int) := ⟨RX1, TX1, 5, tyX1, rfl, by decide, wtX1, (in_tb 77 (by decide +kernel) rfl), rfl, tyX1_ok, nmX1, rfl, rfl, by decide +kernel⟩
theorem qX1_22 : am_fF RX1 22 1 3 (.array .int) := ⟨RX1, TX1, 5, tyX1, rfl, by decide, wtX1, (in_tb 78 (by decide +kernel) rfl), rfl, tyX1_ok, nmX1, rfl, rfl, by decide +kernel⟩
theorem qX1_25 : am_fF RX1 25 1 4 (.array .int) := ⟨RX1, TX1, 5, tyX1, rfl, by decide, wtX1, (in_tb 79 (by decide +kernel) rfl), rfl, tyX1_ok, nmX1, rfl, rfl, by decide +kernel⟩
theorem qX4_15 : am_fF RX4 15 4 1 (.array .int) := ⟨RX4, TX4, 6, tyX4, rfl, by decide, wtX4, (in_tb 104 (by decide +kernel) rfl), rfl, tyX4_ok, nmX4, rfl, rfl, by decide +kernel⟩
theorem qX4_19 : am_fF RX4 19 4 2 (.array .int) := ⟨RX4, TX4, 6, tyX4, rfl, by decide, wtX4, (in_tb 107 (by decide +kernel) rfl), rfl, tyX4_ok, nmX4, rfl, rfl, by decide +kernel⟩
theorem qX4_22 : am_fF RX4 22 4 3 (.array .int) := ⟨RX4, TX4, 6, tyX4, rfl, by decide, wtX4, (in_tb 110 (by decide +kernel) rfl), rfl, tyX4_ok, nmX4, rfl, rfl, by decide +kernel⟩
theorem qX4_25 : am_fF RX4 25 4 4 (.array .int) := ⟨RX4, TX4, 6, tyX4, rfl, by decide, wtX4, (in_tb 113 (by decide +kernel) rfl), rfl, tyX4_ok, nmX4, rfl, rfl, by decide +kernel⟩
theorem qX4_28 : am_fF RX4 28 4 5 (.array .long) := ⟨RX4, TX4, 6, tyX4, rfl, by decide, wtX4, (in_tb 117 (by decide +kernel) rfl), rfl, tyX4_ok, nmX4, rfl, rfl, by decide +kernel⟩
theorem qX0_9 : am_fF RX0 9 0 0 (.array .int) := ⟨RX0, TX0, 5, tyX0, rfl, by decide, wtX0, (in_tb 138 (by decide +kernel) rfl), rfl, tyX0_ok, nmX0, rfl, rfl, by decide +kernel⟩
theorem qX0_15 : am_fF RX0 15 0 1 (.array .int) := ⟨RX0, TX0, 5, tyX0, rfl, by decide, wtX0, (in_tb 142 (by decide +kernel) rfl), rfl, tyX0_ok, nmX0, rfl, rfl, by decide +kernel⟩
theorem qX0_18 : am_fF RX0 18 0 2 (.array .int) := ⟨RX0, TX0, 5, tyX0, rfl, by decide, wtX0, (in_tb 145 (by decide +kernel) rfl), rfl, tyX0_ok, nmX0, rfl, rfl, by decide +kernel⟩
theorem qX0_21 : am_fF RX0 21 0 3 (.array .int) := ⟨RX0, TX0, 5, tyX0, rfl, by decide, wtX0, (in_tb 148 (by decide +kernel) rfl), rfl, tyX0_ok, nmX0, rfl, rfl, by decide +kernel⟩
theorem qX0_24 : am_fF RX0 24 0 4 (.array .int) := ⟨RX0, TX0, 5, tyX0, rfl, by decide, wtX0, (in_tb 150 (by decide +kernel) rfl), rfl, tyX0_ok, nmX0, rfl, rfl, by decide +kernel⟩
theorem qX3_12 : am_fF RX3 12 3 0 (.object "BeltArms$Belt") := ⟨RX3, TX3, 5, tyX3, rfl, by decide, wtX3, (in_tb 163 (by decide +kernel) rfl), rfl, tyX3_ok, nmX3, rfl, rfl, by decide +kernel⟩
theorem qX3_21 : am_fF RX3 21 3 1 (.object "BeltArms$Things") := ⟨RX3, TX3, 5, tyX3, rfl, by decide, wtX3, (in_tb 165 (by decide +kernel) rfl), rfl, tyX3_ok, nmX3, rfl, rfl, by decide +kernel⟩
theorem qX3_28 : am_fF RX3 28 3 2 (.object "BeltArms$Arms") := ⟨RX3, TX3, 5, tyX3, rfl, by decide, wtX3, (in_tb 169 (by decide +kernel) rfl), rfl, tyX3_ok, nmX3, rfl, rfl, by decide +kernel⟩
theorem qX2_18 : am_fF RX2 18 2 2 (.array .int) := ⟨RX2, TX2, 11, tyX2, rfl, by decide, wtX2, (in_tb 198 (by decide +kernel) rfl), rfl, tyX2_ok, nmX2, rfl, rfl, by decide +kernel⟩
theorem qX2_22 : am_fF RX2 22 2 3 (.array .int) := ⟨RX2, TX2, 11, tyX2, rfl, by decide, wtX2, (in_tb 199 (by decide +kernel) rfl), rfl, tyX2_ok, nmX2, rfl, rfl, by decide +kernel⟩
theorem qX2_25 : am_fF RX2 25 2 4 (.array .int) := ⟨RX2, TX2, 11, tyX2, rfl, by decide, wtX2, (in_tb 200 (by decide +kernel) rfl), rfl, tyX2_ok, nmX2, rfl, rfl, by decide +kernel⟩
theorem qX2_28 : am_fF RX2 28 2 5 (.array .int) := ⟨RX2, TX2, 11, tyX2, rfl, by decide, wtX2, (in_tb 202 (by decide +kernel) rfl), rfl, tyX2_ok, nmX2, rfl, rfl, by decide +kernel⟩
theorem qX2_31 : am_fF RX2 31 2 6 (.array .int) := ⟨RX2, TX2, 11, tyX2, rfl, by decide, wtX2, (in_tb 203 (by decide +kernel) rfl), rfl, tyX2_ok, nmX2, rfl, rfl, by decide +kernel⟩
theorem qX2_34 : am_fF RX2 34 2 7 (.array .int) := ⟨RX2, TX2, 11, tyX2, rfl, by decide, wtX2, (in_tb 204 (by decide +kernel) rfl), rfl, tyX2_ok, nmX2, rfl, rfl, by decide +kernel⟩
theorem qX5_9 : am_fF RX5 9 5 0 (.array .int) := ⟨RX5, TX5, 2, tyX5, rfl, by decide, wtX5, (in_tb 237 (by decide +kernel) rfl), rfl, tyX5_ok, nmX5, rfl, rfl, by decide +kernel⟩
theorem qX5_15 : am_fF RX5 15 5 1 (.array .int) := ⟨RX5, TX5, 2, tyX5, rfl, by decide, wtX5, (in_tb 239 (by decide +kernel) rfl), rfl, tyX5_ok, nmX5, rfl, rfl, by decide +kernel⟩
theorem qX6_12 : am_fF RX6 12 6 0 (.object "BeltArms$State") := ⟨RX6, TX6, 7, tyX6, rfl, by decide, wtX6, (in_tb 246 (by decide +kernel) rfl), rfl, tyX6_ok, nmX6, rfl, rfl, by decide +kernel⟩
theorem qX6_16 : am_fF RX6 16 6 1 (.array (.object "BeltArms$State")) := ⟨RX6, TX6, 7, tyX6, rfl, by decide, wtX6, (in_tb 247 (by decide +kernel) rfl), rfl, tyX6_ok, nmX6, rfl, rfl, by decide +kernel⟩
theorem qX6_27 : am_fF RX6 27 6 3 (.object "BeltArms$Plan") := ⟨RX6, TX6, 7, tyX6, rfl, by decide, wtX6, (in_tb 249 (by decide +kernel) rfl), rfl, tyX6_ok, nmX6, rfl, rfl, by decide +kernel⟩
theorem qX6_31 : am_fF RX6 31 6 4 (.object "BeltArms$Plan") := ⟨RX6, TX6, 7, tyX6, rfl, by decide, wtX6, (in_tb 250 (by decide +kernel) rfl), rfl, tyX6_ok, nmX6, rfl, rfl, by decide +kernel⟩
theorem qX6_37 : am_fF RX6 37 6 5 (.object "BeltArms$Trays") := ⟨RX6, TX6, 7, tyX6, rfl, by decide, wtX6, (in_tb 251 (by decide +kernel) rfl), rfl, tyX6_ok, nmX6, rfl, rfl, by decide +kernel⟩
theorem qX7_7 : am_fF RX7 7 7 0 (.array .int) := ⟨RX7, TX7, 16, tyX7, rfl, by decide, wtX7, (in_tb 623 (by decide +kernel) rfl), rfl, tyX7_ok, nmX7, rfl, rfl, by decide +kernel⟩
theorem qX7_13 : am_fF RX7 13 7 1 (.array .int) := ⟨RX7, TX7, 16, tyX7, rfl, by decide, wtX7, (in_tb 624 (by decide +kernel) rfl), rfl, tyX7_ok, nmX7, rfl, rfl, by decide +kernel⟩
theorem qX7_16 : am_fF RX7 16 7 2 (.array .boolean) := ⟨RX7, TX7, 16, tyX7, rfl, by decide, wtX7, (in_tb 625 (by decide +kernel) rfl), rfl, tyX7_ok, nmX7, rfl, rfl, by decide +kernel⟩
theorem qX7_20 : am_fF RX7 20 7 3 (.array .int) := ⟨RX7, TX7, 16, tyX7, rfl, by decide, wtX7, (in_tb 626 (by decide +kernel) rfl), rfl, tyX7_ok, nmX7, rfl, rfl, by decide +kernel⟩
theorem qX7_23 : am_fF RX7 23 7 4 (.array .int) := ⟨RX7, TX7, 16, tyX7, rfl, by decide, wtX7, (in_tb 627 (by decide +kernel) rfl), rfl, tyX7_ok, nmX7, rfl, rfl, by decide +kernel⟩
theorem qX7_26 : am_fF RX7 26 7 5 (.array .int) := ⟨RX7, TX7, 16, tyX7, rfl, by decide, wtX7, (in_tb 628 (by decide +kernel) rfl), rfl, tyX7_ok, nmX7, rfl, rfl, by decide +kernel⟩
theorem qX7_29 : am_fF RX7 29 7 6 (.array .boolean) := ⟨RX7, TX7, 16, tyX7, rfl, by decide, wtX7, (in_tb 629 (by decide +kernel) rfl), rfl, tyX7_ok, nmX7, rfl, rfl, by decide +kernel⟩
theorem qX7_32 : am_fF RX7 32 7 7 (.array .boolean) := ⟨RX7, TX7, 16, tyX7, rfl, by decide, wtX7, (in_tb 630 (by decide +kernel) rfl), rfl, tyX7_ok, nmX7, rfl, rfl, by decide +kernel⟩
theorem qX7_35 : am_fF RX7 35 7 8 (.array .int) := ⟨RX7, TX7, 16, tyX7, rfl, by decide, wtX7, (in_tb 631 (by decide +kernel) rfl), rfl, tyX7_ok, nmX7, rfl, rfl, by decide +kernel⟩
theorem qX7_38 : am_fF RX7 38 7 9 (.array .int) := ⟨RX7, TX7, 16, tyX7, rfl, by decide, wtX7, (in_tb 632 (by decide +kernel) rfl), rfl, tyX7_ok, nmX7, rfl, rfl, by decide +kernel⟩
theorem qX7_41 : am_fF RX7 41 7 10 (.array .int) := ⟨RX7, TX7, 16, tyX7, rfl, by decide, wtX7, (in_tb 633 (by decide +kernel) rfl), rfl, tyX7_ok, nmX7, rfl, rfl, by decide +kernel⟩
theorem qX7_44 : am_fF RX7 44 7 11 (.array .int) := ⟨RX7, TX7, 16, tyX7, rfl, by decide, wtX7, (in_tb 634 (by decide +kernel) rfl), rfl, tyX7_ok, nmX7, rfl, rfl, by decide +kernel⟩
theorem qX7_47 : am_fF RX7 47 7 12 (.array .int) := ⟨RX7, TX7, 16, tyX7, rfl, by decide, wtX7, (in_tb 635 (by decide +kernel) rfl), rfl, tyX7_ok, nmX7, rfl, rfl, by decide +kernel⟩
theorem qX7_50 : am_fF RX7 50 7 14 (.array .int) := ⟨RX7, TX7, 16, tyX7, rfl, by decide, wtX7, (in_tb 637 (by decide +kernel) rfl), rfl, tyX7_ok, nmX7, rfl, rfl, by decide +kernel⟩
theorem qX7_53 : am_fF RX7 53 7 15 (.array .int) := ⟨RX7, TX7, 16, tyX7, rfl, by decide, wtX7, (in_tb 638 (by decide +kernel) rfl), rfl, tyX7_ok, nmX7, rfl, rfl, by decide +kernel⟩
