/-! ===== A SMALL MACHINE OF OUR OWN OVER THE KIT'S: the heap's shape is a fixed table T, its numbers are a state σ of whole numbers; AW says that the method's frame comes to its end with Q. Ints stand for their class mod 2^32, so sums, differences and products ask nothing. ===== -/
abbrev am_V : Type := Int ⊕ (Int64 ⊕ Nat)
abbrev vI (z : Int) : am_V := .inl z
abbrev vL (x : Int64) : am_V := .inr (.inl x)
abbrev vR (k : Nat) : am_V := .inr (.inr k)
abbrev am_S : Type := (Nat → Nat → Int) × (Nat → Nat → Int64)
abbrev am_C : Type := (Nat × List (Option Nat)) ⊕ ((Nat × Nat) ⊕ List Nat)
abbrev am_E : Type := (Nat → Nat) × va_G × (Nat → ClassId)
abbrev am_M : Type := MethodName × ByteArray × Nat × Option FieldType × Room × (Nat × Nat)
def am_tr (E : am_E) (v : am_V) : Value := match v with
  | .inl z => .int (Int32.ofInt z)
  | .inr (.inl x) => .long x
  | .inr (.inr k) => .ref (E.1 k)
def am_fv (E : am_E) (σ : am_S) (k j : Nat) (o : Option Nat) : Value := match o with
  | some r => .ref (E.1 r)
  | none => .int (Int32.ofInt (σ.1 k j))
def am_cell (E : am_E) (σ : am_S) (k : Nat) (c : am_C) : va_E := match c with
  | .inl o => .inr (o.1, o.2.mapIdx (fun j f => am_fv E σ k j f))
  | .inr (.inl a) => match a.1 with
    | 0 => .inl (E.2.2 0, a.2, .inl (fun j => Int32.ofInt (σ.1 k j)))
    | 1 => .inl (E.2.2 1, a.2, .inl (fun j => Int32.ofInt (σ.1 k j)))
    | _ => .inl (E.2.2 2, a.2, .inr (.inl (σ.2 k)))
  | .inr (.inr rs) => .inl (E.2.2 3, rs.length, .inr (.inr (.inr (.inr (fun j => (rs[j]?).map E.1)))))
def am_ws (T : List am_C) (E : am_E) (σ : am_S) : va_W := T.mapIdx (fun k c => (E.1 k, am_cell E σ k c))
def am_cl : List vw_C := [(RX0, TX0, 5), (RX1, TX1, 5), (RX2, TX2, 11), (RX3, TX3, 5), (RX4, TX4, 6), (RX5, TX5, 2), (RX6, TX6, 7), (RX7, TX7, 16)]
def am_tys (E : am_E) : List (ClassId × FieldType) := [(E.2.2 0, .int), (E.2.2 1, .boolean), (E.2.2 2, .long), (E.2.2 3, .object "BeltArms$State")]
def am_A (T : List am_C) (E : am_E) : Nat → Prop := fun q => ∃ k, k < T.length ∧ q = E.1 k
/-- the words of the tables that a callee may ask again; those on nest mates stand in the world -/
def am_tb : List Cond := lw_tbl.filter goodWord
def am_N (U : State) : Prop := va_Nw (.fieldLinkNest "BeltArms$Trays" 49 "BeltArms$Plan" "slotOf" "[I" "BeltArms") U ∧ va_Nw (.methodLinkNest "BeltArms$Arms" 33 yX6_isWithin "BeltArms") U
def am_G (T : List am_C) (E : am_E) (σ : am_S) (U : State) (H : Heap) : Prop := va_P E.2.1 am_cl (am_ws T E σ) H ∧ va_K E.2.1 am_cl (am_tys E) U ∧ va_D (am_A T E) (am_ws T E σ) ∧ am_N U
def am_Pc (T : List am_C) (E : am_E) (av : List am_V) (σ : am_S) : Array Value → State → Prop := fun v U => v = (av.map (am_tr E)).toArray ∧ am_G T E σ U U.heap
def am_Qc (T : List am_C) (E : am_E) (Q : Option am_V → am_S → Prop) : Array Value → State → Outcome → State → Prop := fun _ st oc t => (∃ (r : Option am_V) (σ' : am_S), oc = .returned (r.map (am_tr E)) ∧ Q r σ' ∧ am_G T E σ' t t.heap) ∧ va_F (am_A T E) st t
def am_lh (E : am_E) (ls : Array Slot) (n : Nat) (lv : List (Option am_V)) : Prop := ls.size = n ∧ lv_wf ls ∧ ∀ (i : Nat) (v : am_V), lv[i]? = some (some v) → (am_tr E v).category = 1 → ls[i]? = some (.val (am_tr E v))
def am_wd (M : am_M) : List Cond := .code M.1 M.2.1 M.2.2.1 M.2.2.2.1 :: am_tb
def am_Cx (M : am_M) (p : Program) (s : State) (m : MethodId) (args : Array Value) (meth : Method) (c : Code) : Prop :=
  p.tables.exec = Jvm.exec ∧ c.code = M.2.1 ∧ meth.sig.returnType = M.2.2.2.1 ∧ c.maxLocals = M.2.2.1 ∧ s.vm.findClass M.1.cls = some m.cls ∧ (∀ w ∈ am_wd M, w.before args s = true) ∧ meth.locks = false
def AW (T : List am_C) (M : am_M) (pc : Nat) (lv : List (Option am_V)) (st : List am_V) (σ : am_S) (Q : Option am_V → am_S → Prop) : Prop :=
  ∀ (E : am_E) (p : Program) (l : Launch) (e : Env) (s : State) (m : MethodId) (args : Array Value) (below : List Frame) (meth : Method) (c : Code) (H : Heap) (locs : List Loc) (ls : Array Slot),
    am_Cx M p s m args meth c → am_G T E σ s H → va_S (am_A T E) s.heap H locs → am_lh E ls M.2.2.1 lv →
    W p l e M.2.2.2.2.1 s m args below meth c H locs M.2.2.2.2.2.1 M.2.2.2.2.2.2 (MQ below (am_Qc T E Q) args s M.2.2.2.2.2.1 M.2.2.2.2.2.2 (am_A T E)) (F0 m pc ls (st.map (am_tr E)))
/-- a method's contract over the table -/
def Runs (T : List am_C) (M : am_M) (av : List am_V) (σ : am_S) (Q : Option am_V → am_S → Prop) : Prop := ∀ (l : Launch) (E : am_E), Met l M.1 (am_wd M) M.2.2.2.2.1 (am_Pc T E av σ) (am_Qc T E Q) M.2.2.2.2.2.1 M.2.2.2.2.2.2 (am_A T E)
def QI (P : Int → am_S → Prop) : Option am_V → am_S → Prop := fun r σ' => ∃ z : Int, r = some (vI z) ∧ P z σ'
def QV (P : am_S → Prop) : Option am_V → am_S → Prop := fun r σ' => r = none ∧ P σ'
def QR (P : Nat → am_S → Prop) : Option am_V → am_S → Prop := fun r σ' => ∃ k : Nat, r = some (vR k) ∧ P k σ'
def am_up (σ : am_S) (k j : Nat) (x : Int) : am_S := (fun a b => if a = k ∧ b = j then x else σ.1 a b, σ.2)
def am_upL (σ : am_S) (k j : Nat) (x : Int64) : am_S := (σ.1, fun a b => if a = k ∧ b = j then x else σ.2 a b)
def am_rm (r : Nat) : Room := { frames := r, cells := 0, slots := 0, locals := 34 * r }
-- ===== the heap's cells out of the table =====
theorem am_ws_get {T : List am_C} {E : am_E} {σ : am_S} {k : Nat} {c : am_C} (h : T[k]? = some c) : (am_ws T E σ)[k]? = some (E.1 k, am_cell E σ k c) := by
  simp [am_ws, List.getElem?_mapIdx, h]
theorem am_cell_eq {E : am_E} {σ σ' : am_S} {k : Nat} (c : am_C) (h1 : σ'.1 k = σ.1 k) (h2 : σ'.2 k = σ.2 k) : am_cell E σ' k c = am_cell E σ k c := by
  rcases c with o | a | rs
  · simp only [am_cell]
    have : (fun j f => am_fv E σ' k j f) = (fun j f => am_fv E σ k j f) := by
      funext j f
      cases f <;> simp [am_fv, h1]
    rw [this]
  · simp only [am_cell, h1, h2]
  · rfl
theorem am_ws_set {T : List am_C} {E : am_E} {σ σ' : am_S} {k : Nat} {c : am_C} (hk : T[k]? = some c) (h : ∀ a, a ≠ k → σ'.1 a = σ.1 a ∧ σ'.2 a = σ.2 a) : (am_ws T E σ).set k (E.1 k, am_cell E σ' k c) = am_ws T E σ' := by
  apply List.ext_getElem?
  intro i
  by_cases hi : i = k
  · subst hi
    rw [am_ws_get hk, List.getElem?_set_self (by
      have := am_ws_get (E := E) (σ := σ) hk
      exact (List.getElem?_eq_some_iff.mp this).1)]
  · rw [List.getElem?_set_ne (fun h => hi h.symm)]
    simp only [am_ws, List.getElem?_mapIdx]
    cases hT : T[i]? with
    | none => rfl
    | some c' => simp only [Option.map_some]; rw [am_cell_eq c' (h i hi).1 (h i hi).2]
theorem am_G.moved {T : List am_C} {E : am_E} {σ : am_S} {u U : State} {H : Heap} (hW : u.WarmedH U.vm) (h : am_G T E σ u H) : am_G T E σ U H := ⟨h.1, va_K.moved hW.alike h.2.1, h.2.2.1, va_Nw.warmF hW h.2.2.2.1, va_Nw.warmM hW h.2.2.2.2⟩
theorem am_len {T : List am_C} {k : Nat} {c : am_C} (h : T[k]? = some c) : k < T.length := (List.getElem?_eq_some_iff.mp h).1
-- ===== numbers =====
theorem i32_toInt {x : Int} (h : -2147483648 ≤ x ∧ x < 2147483648) : (Int32.ofInt x).toInt = x := Int32.toInt_ofInt_of_le (by simpa using h.1) (by simpa using h.2)
theorem i32_le {x y : Int} (hx : -2147483648 ≤ x ∧ x < 2147483648) (hy : -2147483648 ≤ y ∧ y < 2147483648) : Int32.ofInt x ≤ Int32.ofInt y ↔ x ≤ y := by rw [Int32.le_iff_toInt_le, i32_toInt hx, i32_toInt hy]
theorem i32_lt {x y : Int} (hx : -2147483648 ≤ x ∧ x < 2147483648) (hy : -2147483648 ≤ y ∧ y < 2147483648) : Int32.ofInt x < Int32.ofInt y ↔ x < y := by rw [Int32.lt_iff_toInt_lt, i32_toInt hx, i32_toInt hy]
theorem i32_eq {x y : Int} (hx : -2147483648 ≤ x ∧ x < 2147483648) (hy : -2147483648 ≤ y ∧ y < 2147483648) : Int32.ofInt x = Int32.ofInt y ↔ x = y := by
  rw [← Int32.toInt_inj, i32_toInt hx, i32_toInt hy]
theorem i32_clamp {x : Int} (h : 0 ≤ x ∧ x < 2147483648) : (Int32.ofInt x).toNatClampNeg = x.toNat := by
  show (Int32.ofInt x).toInt.toNat = x.toNat
  rw [i32_toInt ⟨by omega, h.2⟩]
theorem i32_in {x : Int} {n : Nat} (hn : n < 2147483648) (h : 0 ≤ x ∧ x < n) : vp_in (Int32.ofInt x) n := by
  rw [vp_in_iff, i32_toInt ⟨by omega, by omega⟩]
  exact h
theorem i32_zero : (0 : Int32) = Int32.ofInt 0 := rfl
-- ===== plain rows =====
section AMR
variable {T : List am_C} {M : am_M} {pc : Nat} {lv : List (Option am_V)} {st : List am_V} {σ : am_S} {Q : Option am_V → am_S → Prop}
theorem AW_iconst {n : Int} (hd : decode M.2.1 pc = .ok (.iconst n, 1)) (k : AW T M (pc + 1) lv (vI n :: st) σ Q) : AW T M pc lv st σ Q := by
  intro E p l e s m args below meth c H locs ls C G S L
  exact lv_iconst C.1 C.2.1 hd rfl (k E p l e s m args below meth c H locs ls C G S L)
theorem AW_bipush {n : Int} (hd : decode M.2.1 pc = .ok (.bipush n, 2)) (hn : (Int8.ofInt n).toInt32 = Int32.ofInt n) (k : AW T M (pc + 2) lv (vI n :: st) σ Q) : AW T M pc lv st σ Q := by
  intro E p l e s m args below meth c H locs ls C G S L
  exact lv_bipush C.1 C.2.1 hd hn (k E p l e s m args below meth c H locs ls C G S L)
theorem AW_sipush {n : Int} (hd : decode M.2.1 pc = .ok (.sipush n, 3)) (hn : (Int16.ofInt n).toInt32 = Int32.ofInt n) (k : AW T M (pc + 3) lv (vI n :: st) σ Q) : AW T M pc lv st σ Q := by
  intro E p l e s m args below meth c H locs ls C G S L
  exact lv_sipush C.1 C.2.1 hd hn (k E p l e s m args below meth c H locs ls C G S L)
theorem AW_lconst {n : Fin 2} {v : Int64} (hd : decode M.2.1 pc = .ok (.lconst n, 1)) (hv : Int64.ofNat (n : Nat) = v) (k : AW T M (pc + 1) lv (vL v :: st) σ Q) : AW T M pc lv st σ Q := by
  intro E p l e s m args below meth c H locs ls C G S L
  exact lv_lconst C.1 C.2.1 hd hv (k E p l e s m args below meth c H locs ls C G S L)
theorem AW_iload_n {j : Fin 4} {x : Int} (hd : decode M.2.1 pc = .ok (.iload_n j, 1)) (hl : lv[(j : Nat)]? = some (some (vI x))) (k : AW T M (pc + 1) lv (vI x :: st) σ Q) : AW T M pc lv st σ Q := by
  intro E p l e s m args below meth c H locs ls C G S L
  exact lv_iload_n C.1 C.2.1 hd rfl (L.2.2 _ _ hl rfl) (k E p l e s m args below meth c H locs ls C G S L)
theorem AW_iload {i : Nat} {x : Int} (hd : decode M.2.1 pc = .ok (.iload i, 2)) (hl : lv[i]? = some (some (vI x))) (k : AW T M (pc + 2) lv (vI x :: st) σ Q) : AW T M pc lv st σ Q := by
  intro E p l e s m args below meth c H locs ls C G S L
  exact lv_iload C.1 C.2.1 hd (L.2.2 _ _ hl rfl) (k E p l e s m args below meth c H locs ls C G S L)
theorem AW_aload_n {j : Fin 4} {x : Nat} (hd : decode M.2.1 pc = .ok (.aload_n j, 1)) (hl : lv[(j : Nat)]? = some (some (vR x))) (k : AW T M (pc + 1) lv (vR x :: st) σ Q) : AW T M pc lv st σ Q := by
  intro E p l e s m args below meth c H locs ls C G S L
  exact lv_aload_n C.1 C.2.1 hd rfl (L.2.2 _ _ hl rfl) (k E p l e s m args below meth c H locs ls C G S L)
theorem AW_aload {i : Nat} {x : Nat} (hd : decode M.2.1 pc = .ok (.aload i, 2)) (hl : lv[i]? = some (some (vR x))) (k : AW T M (pc + 2) lv (vR x :: st) σ Q) : AW T M pc lv st σ Q := by
  intro E p l e s m args below meth c H locs ls C G S L
  exact lv_aload C.1 C.2.1 hd (L.2.2 _ _ hl rfl) (k E p l e s m args below meth c H locs ls C G S L)
/-- the locals as the kit's list -/
def am_ll (E : am_E) (lv : List (Option am_V)) : List (Nat × Value) := lv.zipIdx.filterMap (fun q => match q.1 with
  | some v => if (am_tr E v).category = 1 then some (q.2, am_tr E v) else none
  | none => none)
theorem am_ll_mem {E : am_E} {lv : List (Option am_V)} {i : Nat} {w : Value} : (i, w) ∈ am_ll E lv ↔ ∃ v, lv[i]? = some (some v) ∧ (am_tr E v).category = 1 ∧ w = am_tr E v := by
  unfold am_ll
  rw [List.mem_filterMap]
  constructor
  · rintro ⟨⟨o, j⟩, hm, hq⟩
    rw [List.mem_zipIdx_iff_getElem?] at hm
    cases o with
    | none => simp at hq
    | some v =>
      simp only at hq
      split at hq
      · rename_i hc
        simp only [Option.some.injEq, Prod.mk.injEq] at hq
        obtain ⟨rfl, rfl⟩ := hq
        exact ⟨v, by simpa using hm, hc, rfl⟩
      · cases hq
  · rintro ⟨v, h1, h2, rfl⟩
    refine ⟨(some v, i), ?_, by simp [h2]⟩
    rw [List.mem_zipIdx_iff_getElem?]
    simpa using h1
theorem am_lh.has {E : am_E} {ls : Array Slot} {n : Nat} (h : am_lh E ls n lv) : lv_has ls n (am_ll E lv) := ⟨h.1, h.2.1, fun q hq => by
  obtain ⟨v, h1, h2, h3⟩ := am_ll_mem.mp (show (q.1, q.2) ∈ _ from hq)
  rw [h3]
  exact h.2.2 _ _ h1 h2⟩
theorem am_lh_set {E : am_E} {ls : Array Slot} {n i : Nat} {v : am_V} {w : Value} (hw : w = am_tr E v) (hlv : i < lv.length) (h : lv_has ls n ((i, w) :: (am_ll E lv).filter (fun q => !(q.1 == i) && !(q.1 + 1 == i && q.2.category == 2)))) : am_lh E ls n (lv.set i (some v)) := by
  refine ⟨h.1, h.2.1, fun j u hj hc => ?_⟩
  by_cases hji : j = i
  · subst hji
    rw [List.getElem?_set_self hlv] at hj
    cases hj
    have := h.2.2 (j, w) List.mem_cons_self
    rw [hw] at this
    exact this
  · rw [List.getElem?_set_ne (fun h => hji h.symm)] at hj
    have hm : (j, am_tr E u) ∈ am_ll E lv := am_ll_mem.mpr ⟨u, hj, hc, rfl⟩
    exact h.2.2 (j, am_tr E u) (List.mem_cons_of_mem _ (List.mem_filter.mpr ⟨hm, by simp [hji, hc]⟩))
theorem AW_istore_n {j : Fin 4} {i : Nat} {x : Int} {lv' : List (Option am_V)} (hd : decode M.2.1 pc = .ok (.istore_n j, 1)) (hi : (j : Nat) = i) (hn : i < M.2.2.1) (hlen : i < lv.length) (hl : lv.set i (some (vI x)) = lv') (k : AW T M (pc + 1) lv' st σ Q) : AW T M pc lv (vI x :: st) σ Q := by
  intro E p l e s m args below meth c H locs ls C G S L
  subst hl
  exact lv_istore_n C.1 C.2.1 hd hi L.has hn rfl (fun ls' h => k E p l e s m args below meth c H locs ls' C G S (am_lh_set (v := vI x) rfl hlen h))
theorem AW_istore {i : Nat} {x : Int} {lv' : List (Option am_V)} (hd : decode M.2.1 pc = .ok (.istore i, 2)) (hn : i < M.2.2.1) (hlen : i < lv.length) (hl : lv.set i (some (vI x)) = lv') (k : AW T M (pc + 2) lv' st σ Q) : AW T M pc lv (vI x :: st) σ Q := by
  intro E p l e s m args below meth c H locs ls C G S L
  subst hl
  exact lv_istore C.1 C.2.1 hd L.has hn rfl (fun ls' h => k E p l e s m args below meth c H locs ls' C G S (am_lh_set (v := vI x) rfl hlen h))
theorem AW_astore_n {j : Fin 4} {i : Nat} {x : Nat} {lv' : List (Option am_V)} (hd : decode M.2.1 pc = .ok (.astore_n j, 1)) (hi : (j : Nat) = i) (hn : i < M.2.2.1) (hlen : i < lv.length) (hl : lv.set i (some (vR x)) = lv') (k : AW T M (pc + 1) lv' st σ Q) : AW T M pc lv (vR x :: st) σ Q := by
  intro E p l e s m args below meth c H locs ls C G S L
  subst hl
  exact lv_astore_n C.1 C.2.1 hd hi L.has hn rfl (fun ls' h => k E p l e s m args below meth c H locs ls' C G S (am_lh_set (v := vR x) rfl hlen h))
theorem AW_astore {i : Nat} {x : Nat} {lv' : List (Option am_V)} (hd : decode M.2.1 pc = .ok (.astore i, 2)) (hn : i < M.2.2.1) (hlen : i < lv.length) (hl : lv.set i (some (vR x)) = lv') (k : AW T M (pc + 2) lv' st σ Q) : AW T M pc lv (vR x :: st) σ Q := by
  intro E p l e s m args below meth c H locs ls C G S L
  subst hl
  exact lv_astore C.1 C.2.1 hd L.has hn rfl (fun ls' h => k E p l e s m args below meth c H locs ls' C G S (am_lh_set (v := vR x) rfl hlen h))
theorem AW_iinc {i : Nat} {n x : Int} {lv' : List (Option am_V)} (hd : decode M.2.1 pc = .ok (.iinc i n, 3)) (hx : lv[i]? = some (some (vI x))) (hn : i < M.2.2.1) (hl : lv.set i (some (vI (x + n))) = lv') (k : AW T M (pc + 3) lv' st σ Q) : AW T M pc lv st σ Q := by
  intro E p l e s m args below meth c H locs ls C G S L
  subst hl
  have hm : (i, am_tr E (vI x)) ∈ am_ll E lv := am_ll_mem.mpr ⟨vI x, hx, rfl, rfl⟩
  obtain ⟨q, hq⟩ := List.getElem?_of_mem hm
  exact lv_iinc C.1 C.2.1 hd L.has hq (Int32.ofInt_add x n).symm hn rfl (fun ls' h => k E p l e s m args below meth c H locs ls' C G S (am_lh_set (v := vI (x + n)) rfl (List.getElem?_eq_some_iff.mp hx).1 h))
theorem AW_iadd {x y : Int} (hd : decode M.2.1 pc = .ok (.iadd, 1)) (k : AW T M (pc + 1) lv (vI (x + y) :: st) σ Q) : AW T M pc lv (vI y :: vI x :: st) σ Q := by
  intro E p l e s m args below meth c H locs ls C G S L
  refine lv_iadd C.1 C.2.1 hd ?_
  rw [← Int32.ofInt_add]
  exact k E p l e s m args below meth c H locs ls C G S L
theorem AW_isub {x y : Int} (hd : decode M.2.1 pc = .ok (.isub, 1)) (k : AW T M (pc + 1) lv (vI (x - y) :: st) σ Q) : AW T M pc lv (vI y :: vI x :: st) σ Q := by
  intro E p l e s m args below meth c H locs ls C G S L
  refine lv_isub C.1 C.2.1 hd ?_
  rw [← Int32.ofInt_sub]
  exact k E p l e s m args below meth c H locs ls C G S L
theorem AW_imul {x y : Int} (hd : decode M.2.1 pc = .ok (.imul, 1)) (k : AW T M (pc + 1) lv (vI (x * y) :: st) σ Q) : AW T M pc lv (vI y :: vI x :: st) σ Q := by
  intro E p l e s m args below meth c H locs ls C G S L
  refine lv_imul C.1 C.2.1 hd ?_
  rw [← Int32.ofInt_mul]
  exact k E p l e s m args below meth c H locs ls C G S L
theorem AW_ineg {x : Int} (hd : decode M.2.1 pc = .ok (.ineg, 1)) (k : AW T M (pc + 1) lv (vI (-x) :: st) σ Q) : AW T M pc lv (vI x :: st) σ Q := by
  intro E p l e s m args below meth c H locs ls C G S L
  refine lv_ineg C.1 C.2.1 hd ?_
  rw [← Int32.ofInt_neg]
  exact k E p l e s m args below meth c H locs ls C G S L
theorem i32_div {x y : Int} (hx : -2147483648 ≤ x ∧ x < 2147483648) (hy : -2147483648 ≤ y ∧ y < 2147483648) : Int32.ofInt x / Int32.ofInt y = Int32.ofInt (x.tdiv y) := by
  have h1 : (Int32.minValue.toInt : Int) = -2147483648 := rfl
  have h2 : (Int32.maxValue.toInt : Int) = 2147483647 := rfl
  rw [Int32.ofInt_tdiv] <;> omega
theorem AW_idiv {x y : Int} (hd : decode M.2.1 pc = .ok (.idiv, 1)) (hx : -2147483648 ≤ x ∧ x < 2147483648) (hy : -2147483648 ≤ y ∧ y < 2147483648) (h0 : y ≠ 0) (k : AW T M (pc + 1) lv (vI (x.tdiv y) :: st) σ Q) : AW T M pc lv (vI y :: vI x :: st) σ Q := by
  intro E p l e s m args below meth c H locs ls C G S L
  refine lv_idiv C.1 C.2.1 hd (fun h => h0 ((i32_eq hy ⟨by omega, by omega⟩).mp (h.trans i32_zero))) ?_
  rw [i32_div hx hy]
  exact k E p l e s m args below meth c H locs ls C G S L
theorem AW_irem {x y : Int} (hd : decode M.2.1 pc = .ok (.irem, 1)) (hx : -2147483648 ≤ x ∧ x < 2147483648) (hy : -2147483648 ≤ y ∧ y < 2147483648) (h0 : y ≠ 0) (k : AW T M (pc + 1) lv (vI (x.tmod y) :: st) σ Q) : AW T M pc lv (vI y :: vI x :: st) σ Q := by
  intro E p l e s m args below meth c H locs ls C G S L
  refine lv_irem C.1 C.2.1 hd (fun h => h0 ((i32_eq hy ⟨by omega, by omega⟩).mp (h.trans i32_zero))) ?_
  rw [i32_div hx hy, ← Int32.ofInt_mul, ← Int32.ofInt_sub, show x - x.tdiv y * y = x.tmod y from by rw [Int.mul_comm]; exact (Int.tmod_def x y).symm]
  exact k E p l e s m args below meth c H locs ls C G S L
/-- the int rows on bits: what they answer, as a whole number -/
theorem AW_iand {x y z : Int} (hd : decode M.2.1 pc = .ok (.iand, 1)) (hz : Int32.ofInt x &&& Int32.ofInt y = Int32.ofInt z) (k : AW T M (pc + 1) lv (vI z :: st) σ Q) : AW T M pc lv (vI y :: vI x :: st) σ Q := by
  intro E p l e s m args below meth c H locs ls C G S L
  refine lv_iand C.1 C.2.1 hd ?_
  rw [hz]
  exact k E p l e s m args below meth c H locs ls C G S L
theorem AW_ior {x y z : Int} (hd : decode M.2.1 pc = .ok (.ior, 1)) (hz : Int32.ofInt x ||| Int32.ofInt y = Int32.ofInt z) (k : AW T M (pc + 1) lv (vI z :: st) σ Q) : AW T M pc lv (vI y :: vI x :: st) σ Q := by
  intro E p l e s m args below meth c H locs ls C G S L
  refine lv_ior C.1 C.2.1 hd ?_
  rw [hz]
  exact k E p l e s m args below meth c H locs ls C G S L
theorem AW_ixor {x y z : Int} (hd : decode M.2.1 pc = .ok (.ixor, 1)) (hz : Int32.ofInt x ^^^ Int32.ofInt y = Int32.ofInt z) (k : AW T M (pc + 1) lv (vI z :: st) σ Q) : AW T M pc lv (vI y :: vI x :: st) σ Q := by
  intro E p l e s m args below meth c H locs ls C G S L
  refine lv_ixor C.1 C.2.1 hd ?_
  rw [hz]
  exact k E p l e s m args below meth c H locs ls C G S L
theorem AW_ishl {x y z : Int} (hd : decode M.2.1 pc = .ok (.ishl, 1)) (hz : Int32.ofInt x <<< (Int32.ofInt y &&& 31) = Int32.ofInt z) (k : AW T M (pc + 1) lv (vI z :: st) σ Q) : AW T M pc lv (vI y :: vI x :: st) σ Q := by
  intro E p l e s m args below meth c H locs ls C G S L
  refine lv_ishl C.1 C.2.1 hd ?_
  rw [hz]
  exact k E p l e s m args below meth c H locs ls C G S L
theorem AW_ishr {x y z : Int} (hd : decode M.2.1 pc = .ok (.ishr, 1)) (hz : Int32.ofInt x >>> (Int32.ofInt y &&& 31) = Int32.ofInt z) (k : AW T M (pc + 1) lv (vI z :: st) σ Q) : AW T M pc lv (vI y :: vI x :: st) σ Q := by
  intro E p l e s m args below meth c H locs ls C G S L
  refine lv_ishr C.1 C.2.1 hd ?_
  rw [hz]
  exact k E p l e s m args below meth c H locs ls C G S L
theorem AW_goto {off : Int} {tgt : Nat} (hd : decode M.2.1 pc = .ok (.goto off, 3)) (ht : (pc : Int) + off = (tgt : Int)) (k : AW T M tgt lv st σ Q) : AW T M pc lv st σ Q := by
  intro E p l e s m args below meth c H locs ls C G S L
  exact lv_goto C.1 C.2.1 hd ht (k E p l e s m args below meth c H locs ls C G S L)
theorem am_cat1 {E : am_E} {v : am_V} (h : ∀ x, v ≠ vL x) : (am_tr E v).category = 1 := by
  rcases v with z | x | k
  · rfl
  · exact absurd rfl (h x)
  · rfl
theorem AW_dupI {x : Int} (hd : decode M.2.1 pc = .ok (.dup, 1)) (k : AW T M (pc + 1) lv (vI x :: vI x :: st) σ Q) : AW T M pc lv (vI x :: st) σ Q := by
  intro E p l e s m args below meth c H locs ls C G S L
  exact lv_dup C.1 C.2.1 hd rfl (k E p l e s m args below meth c H locs ls C G S L)
theorem AW_dupR {x : Nat} (hd : decode M.2.1 pc = .ok (.dup, 1)) (k : AW T M (pc + 1) lv (vR x :: vR x :: st) σ Q) : AW T M pc lv (vR x :: st) σ Q := by
  intro E p l e s m args below meth c H locs ls C G S L
  exact lv_dup C.1 C.2.1 hd rfl (k E p l e s m args below meth c H locs ls C G S L)
theorem AW_dup2 {x : Int} {a : Nat} (hd : decode M.2.1 pc = .ok (.dup2, 1)) (k : AW T M (pc + 1) lv (vI x :: vR a :: vI x :: vR a :: st) σ Q) : AW T M pc lv (vI x :: vR a :: st) σ Q := by
  intro E p l e s m args below meth c H locs ls C G S L
  exact lv_dup2_11 C.1 C.2.1 hd rfl rfl (k E p l e s m args below meth c H locs ls C G S L)
theorem AW_popR {x : Nat} (hd : decode M.2.1 pc = .ok (.pop, 1)) (k : AW T M (pc + 1) lv st σ Q) : AW T M pc lv (vR x :: st) σ Q := by
  intro E p l e s m args below meth c H locs ls C G S L
  exact lv_pop C.1 C.2.1 hd rfl (k E p l e s m args below meth c H locs ls C G S L)
theorem AW_popI {x : Int} (hd : decode M.2.1 pc = .ok (.pop, 1)) (k : AW T M (pc + 1) lv st σ Q) : AW T M pc lv (vI x :: st) σ Q := by
  intro E p l e s m args below meth c H locs ls C G S L
  exact lv_pop C.1 C.2.1 hd rfl (k E p l e s m args below meth c H locs ls C G S L)
end AMR
theorem i32_z : -2147483648 ≤ (0 : Int) ∧ (0 : Int) < 2147483648 := ⟨by decide, by decide⟩
section AMC
variable {T : List am_C} {M : am_M} {pc : Nat} {lv : List (Option am_V)} {st : List am_V} {σ : am_S} {Q : Option am_V → am_S → Prop}
theorem AW_icmp_eq {x y off : Int} (tgt : Nat) (hd : decode M.2.1 pc = .ok (.if_icmp .eq off, 3)) (ht : (pc : Int) + off = (tgt : Int)) (hx : -2147483648 ≤ x ∧ x < 2147483648) (hy : -2147483648 ≤ y ∧ y < 2147483648) (kt : x = y → AW T M tgt lv st σ Q) (kf : ¬ (x = y) → AW T M (pc + 3) lv st σ Q) : AW T M pc lv (vI y :: vI x :: st) σ Q := by
  intro E p l e s m args below meth c H locs ls C G S L
  exact lv_icmp_eq C.1 C.2.1 hd ht (fun h => kt ((i32_eq hx hy).mp h) E p l e s m args below meth c H locs ls C G S L) (fun h => kf (fun h0 => h ((i32_eq hx hy).mpr h0)) E p l e s m args below meth c H locs ls C G S L)
theorem AW_if_eq {x off : Int} (tgt : Nat) (hd : decode M.2.1 pc = .ok (.ifCond .eq off, 3)) (ht : (pc : Int) + off = (tgt : Int)) (hx : -2147483648 ≤ x ∧ x < 2147483648) (kt : x = 0 → AW T M tgt lv st σ Q) (kf : ¬ (x = 0) → AW T M (pc + 3) lv st σ Q) : AW T M pc lv (vI x :: st) σ Q := by
  intro E p l e s m args below meth c H locs ls C G S L
  exact lv_if_eq C.1 C.2.1 hd ht (fun h => kt ((i32_eq hx i32_z).mp h) E p l e s m args below meth c H locs ls C G S L) (fun h => kf (fun h0 => h ((i32_eq hx i32_z).mpr h0)) E p l e s m args below meth c H locs ls C G S L)
theorem AW_icmp_ne {x y off : Int} (tgt : Nat) (hd : decode M.2.1 pc = .ok (.if_icmp .ne off, 3)) (ht : (pc : Int) + off = (tgt : Int)) (hx : -2147483648 ≤ x ∧ x < 2147483648) (hy : -2147483648 ≤ y ∧ y < 2147483648) (kt : x ≠ y → AW T M tgt lv st σ Q) (kf : ¬ (x ≠ y) → AW T M (pc + 3) lv st σ Q) : AW T M pc lv (vI y :: vI x :: st) σ Q := by
  intro E p l e s m args below meth c H locs ls C G S L
  exact lv_icmp_ne C.1 C.2.1 hd ht (fun h => kt (fun h0 => h ((i32_eq hx hy).mpr h0)) E p l e s m args below meth c H locs ls C G S L) (fun h => kf (fun h0 => h0 ((i32_eq hx hy).mp h)) E p l e s m args below meth c H locs ls C G S L)
theorem AW_if_ne {x off : Int} (tgt : Nat) (hd : decode M.2.1 pc = .ok (.ifCond .ne off, 3)) (ht : (pc : Int) + off = (tgt : Int)) (hx : -2147483648 ≤ x ∧ x < 2147483648) (kt : x ≠ 0 → AW T M tgt lv st σ Q) (kf : ¬ (x ≠ 0) → AW T M (pc + 3) lv st σ Q) : AW T M pc lv (vI x :: st) σ Q := by
  intro E p l e s m args below meth c H locs ls C G S L
  exact lv_if_ne C.1 C.2.1 hd ht (fun h => kt (fun h0 => h ((i32_eq hx i32_z).mpr h0)) E p l e s m args below meth c H locs ls C G S L) (fun h => kf (fun h0 => h0 ((i32_eq hx i32_z).mp h)) E p l e s m args below meth c H locs ls C G S L)
theorem AW_icmp_lt {x y off : Int} (tgt : Nat) (hd : decode M.2.1 pc = .ok (.if_icmp .lt off, 3)) (ht : (pc : Int) + off = (tgt : Int)) (hx : -2147483648 ≤ x ∧ x < 2147483648) (hy : -2147483648 ≤ y ∧ y < 2147483648) (kt : x < y → AW T M tgt lv st σ Q) (kf : ¬ (x < y) → AW T M (pc + 3) lv st σ Q) : AW T M pc lv (vI y :: vI x :: st) σ Q := by
  intro E p l e s m args below meth c H locs ls C G S L
  exact lv_icmp_lt C.1 C.2.1 hd ht (fun h => kt ((i32_lt hx hy).mp h) E p l e s m args below meth c H locs ls C G S L) (fun h => kf (fun h0 => h ((i32_lt hx hy).mpr h0)) E p l e s m args below meth c H locs ls C G S L)
theorem AW_if_lt {x off : Int} (tgt : Nat) (hd : decode M.2.1 pc = .ok (.ifCond .lt off, 3)) (ht : (pc : Int) + off = (tgt : Int)) (hx : -2147483648 ≤ x ∧ x < 2147483648) (kt : x < 0 → AW T M tgt lv st σ Q) (kf : ¬ (x < 0) → AW T M (pc + 3) lv st σ Q) : AW T M pc lv (vI x :: st) σ Q := by
  intro E p l e s m args below meth c H locs ls C G S L
  exact lv_if_lt C.1 C.2.1 hd ht (fun h => kt ((i32_lt hx i32_z).mp h) E p l e s m args below meth c H locs ls C G S L) (fun h => kf (fun h0 => h ((i32_lt hx i32_z).mpr h0)) E p l e s m args below meth c H locs ls C G S L)
theorem AW_icmp_ge {x y off : Int} (tgt : Nat) (hd : decode M.2.1 pc = .ok (.if_icmp .ge off, 3)) (ht : (pc : Int) + off = (tgt : Int)) (hx : -2147483648 ≤ x ∧ x < 2147483648) (hy : -2147483648 ≤ y ∧ y < 2147483648) (kt : y ≤ x → AW T M tgt lv st σ Q) (kf : ¬ (y ≤ x) → AW T M (pc + 3) lv st σ Q) : AW T M pc lv (vI y :: vI x :: st) σ Q := by
  intro E p l e s m args below meth c H locs ls C G S L
  exact lv_icmp_ge C.1 C.2.1 hd ht (fun h => kt ((i32_le hy hx).mp h) E p l e s m args below meth c H locs ls C G S L) (fun h => kf (fun h0 => h ((i32_le hy hx).mpr h0)) E p l e s m args below meth c H locs ls C G S L)
theorem AW_if_ge {x off : Int} (tgt : Nat) (hd : decode M.2.1 pc = .ok (.ifCond .ge off, 3)) (ht : (pc : Int) + off = (tgt : Int)) (hx : -2147483648 ≤ x ∧ x < 2147483648) (kt : 0 ≤ x → AW T M tgt lv st σ Q) (kf : ¬ (0 ≤ x) → AW T M (pc + 3) lv st σ Q) : AW T M pc lv (vI x :: st) σ Q := by
  intro E p l e s m args below meth c H locs ls C G S L
  exact lv_if_ge C.1 C.2.1 hd ht (fun h => kt ((i32_le i32_z hx).mp h) E p l e s m args below meth c H locs ls C G S L) (fun h => kf (fun h0 => h ((i32_le i32_z hx).mpr h0)) E p l e s m args below meth c H locs ls C G S L)
theorem AW_icmp_gt {x y off : Int} (tgt : Nat) (hd : decode M.2.1 pc = .ok (.if_icmp .gt off, 3)) (ht : (pc : Int) + off = (tgt : Int)) (hx : -2147483648 ≤ x ∧ x < 2147483648) (hy : -2147483648 ≤ y ∧ y < 2147483648) (kt : y < x → AW T M tgt lv st σ Q) (kf : ¬ (y < x) → AW T M (pc + 3) lv st σ Q) : AW T M pc lv (vI y :: vI x :: st) σ Q := by
  intro E p l e s m args below meth c H locs ls C G S L
  exact lv_icmp_gt C.1 C.2.1 hd ht (fun h => kt ((i32_lt hy hx).mp h) E p l e s m args below meth c H locs ls C G S L) (fun h => kf (fun h0 => h ((i32_lt hy hx).mpr h0)) E p l e s m args below meth c H locs ls C G S L)
theorem AW_if_gt {x off : Int} (tgt : Nat) (hd : decode M.2.1 pc = .ok (.ifCond .gt off, 3)) (ht : (pc : Int) + off = (tgt : Int)) (hx : -2147483648 ≤ x ∧ x < 2147483648) (kt : 0 < x → AW T M tgt lv st σ Q) (kf : ¬ (0 < x) → AW T M (pc + 3) lv st σ Q) : AW T M pc lv (vI x :: st) σ Q := by
  intro E p l e s m args below meth c H locs ls C G S L
  exact lv_if_gt C.1 C.2.1 hd ht (fun h => kt ((i32_lt i32_z hx).mp h) E p l e s m args below meth c H locs ls C G S L) (fun h => kf (fun h0 => h ((i32_lt i32_z hx).mpr h0)) E p l e s m args below meth c H locs ls C G S L)
theorem AW_icmp_le {x y off : Int} (tgt : Nat) (hd : decode M.2.1 pc = .ok (.if_icmp .le off, 3)) (ht : (pc : Int) + off = (tgt : Int)) (hx : -2147483648 ≤ x ∧ x < 2147483648) (hy : -2147483648 ≤ y ∧ y < 2147483648) (kt : x ≤ y → AW T M tgt lv st σ Q) (kf : ¬ (x ≤ y) → AW T M (pc + 3) lv st σ Q) : AW T M pc lv (vI y :: vI x :: st) σ Q := by
  intro E p l e s m args below meth c H locs ls C G S L
  exact lv_icmp_le C.1 C.2.1 hd ht (fun h => kt ((i32_le hx hy).mp h) E p l e s m args below meth c H locs ls C G S L) (fun h => kf (fun h0 => h ((i32_le hx hy).mpr h0)) E p l e s m args below meth c H locs ls C G S L)
theorem AW_if_le {x off : Int} (tgt : Nat) (hd : decode M.2.1 pc = .ok (.ifCond .le off, 3)) (ht : (pc : Int) + off = (tgt : Int)) (hx : -2147483648 ≤ x ∧ x < 2147483648) (kt : x ≤ 0 → AW T M tgt lv st σ Q) (kf : ¬ (x ≤ 0) → AW T M (pc + 3) lv st σ Q) : AW T M pc lv (vI x :: st) σ Q := by
  intro E p l e s m args below meth c H locs ls C G S L
  exact lv_if_le C.1 C.2.1 hd ht (fun h => kt ((i32_le hx i32_z).mp h) E p l e s m args below meth c H locs ls C G S L) (fun h => kf (fun h0 => h ((i32_le hx i32_z).mpr h0)) E p l e s m args below meth c H locs ls C G S L)
end AMC
-- ===== fields, arrays =====
def am_fl (own : String) (idx ci j : Nat) : Prop := ∃ (C : String) (T : u_T) (N : Nat), am_cl[ci]? = some (C, T, N) ∧ j < N ∧ (∀ w ∈ u_ws C T N, w ∈ am_tb) ∧ Cond.fieldLink own idx C (T j).2.1 (T j).2.2.1 ∈ am_tb ∧ (T j).1 = C
def am_fn (own : String) (idx ci j : Nat) : Prop := ∃ (C : String) (T : u_T) (N : Nat) (host : String), am_cl[ci]? = some (C, T, N) ∧ j < N ∧ (∀ w ∈ u_ws C T N, w ∈ am_tb) ∧ (∀ U, am_N U → va_Nw (.fieldLinkNest own idx C (T j).2.1 (T j).2.2.1 host) U) ∧ (T j).1 = C
def am_fp (own : String) (idx ci j : Nat) (ty : FieldType) : Prop := ∃ (C : String) (T : u_T) (N : Nat) (ty0 : Nat → FieldType), am_cl[ci]? = some (C, T, N) ∧ j < N ∧ (∀ w ∈ u_ws C T N, w ∈ am_tb) ∧ Cond.fieldLink own idx C (T j).2.1 (T j).2.2.1 ∈ am_tb ∧ (T j).1 = C ∧ (∀ k, k < N → parseFieldDescriptor (T k).2.2.1 = some (ty0 k)) ∧ (∀ a, a < N → ∀ b, b < N → a ≠ b → (T a).2.1 ≠ (T b).2.1) ∧ (T j).2.2.2 = false ∧ parseFieldDescriptor (T j).2.2.1 = some ty
/-- what a field holds -/
def am_fval (σ : am_S) (a j : Nat) (fs : List (Option Nat)) : Option am_V := match fs[j]? with
  | some (some r) => some (vR r)
  | some none => some (vI (σ.1 a j))
  | none => none
section AMF
variable {T : List am_C} {M : am_M} {pc : Nat} {lv : List (Option am_V)} {st : List am_V} {σ : am_S} {Q : Option am_V → am_S → Prop}
theorem am_fval_at {E : am_E} {a j : Nat} {fs : List (Option Nat)} {v : am_V} (hv : am_fval σ a j fs = some v) : (fs.mapIdx (fun j f => am_fv E σ a j f))[j]? = some (am_tr E v) := by
  rw [List.getElem?_mapIdx]
  unfold am_fval at hv
  cases h : fs[j]? with
  | none => rw [h] at hv; cases hv
  | some o =>
    rw [h] at hv
    cases o with
    | none => cases hv; rfl
    | some r => cases hv; rfl
theorem AW_get {a ci j idx : Nat} {fs : List (Option Nat)} {v : am_V} (hd : decode M.2.1 pc = .ok (.getfield idx, 3)) (hf : am_fl M.1.cls idx ci j) (ht : T[a]? = some (.inl (ci, fs))) (hv : am_fval σ a j fs = some v) (k : AW T M (pc + 3) lv (v :: st) σ Q) : AW T M pc lv (vR a :: st) σ Q := by
  intro E p l e s m args below meth c H locs ls C G S L
  obtain ⟨Cn, TT, N, h1, h2, h3, h4, h5⟩ := hf
  refine va_get (D := E.2.1) C.1 C.2.1 (Ts := am_wd M) C.2.2.2.2.2.1 (fun w hw => List.mem_cons_of_mem _ (h3 w hw)) C.2.2.2.2.1 G.2.1 G.1 a (am_ws_get ht) h1 j h2 (C.2.2.2.2.2.1 _ (List.mem_cons_of_mem _ h4)) (fun x hx => by rw [h5] at hx; exact hx) (am_fval_at hv) hd ?_
  exact k E p l e s m args below meth c H locs ls C G S L
theorem AW_getN {a ci j idx : Nat} {fs : List (Option Nat)} {v : am_V} (hd : decode M.2.1 pc = .ok (.getfield idx, 3)) (hf : am_fn M.1.cls idx ci j) (ht : T[a]? = some (.inl (ci, fs))) (hv : am_fval σ a j fs = some v) (k : AW T M (pc + 3) lv (v :: st) σ Q) : AW T M pc lv (vR a :: st) σ Q := by
  intro E p l e s m args below meth c H locs ls C G S L
  obtain ⟨Cn, TT, N, host, h1, h2, h3, h4, h5⟩ := hf
  refine va_getN (D := E.2.1) C.1 C.2.1 (Ts := am_wd M) C.2.2.2.2.2.1 (fun w hw => List.mem_cons_of_mem _ (h3 w hw)) C.2.2.2.2.1 G.2.1 G.1 a (am_ws_get ht) h1 j h2 (va_Nw.use rfl (h4 s G.2.2.2)) (fun x hx => by rw [h5] at hx; exact hx) (am_fval_at hv) hd ?_
  exact k E p l e s m args below meth c H locs ls C G S L
theorem am_up_off {σ : am_S} {k j : Nat} {x : Int} : ∀ a, a ≠ k → (am_up σ k j x).1 a = σ.1 a ∧ (am_up σ k j x).2 a = σ.2 a := by
  intro a ha
  refine ⟨?_, rfl⟩
  funext b
  simp [am_up, ha]
theorem am_upL_off {σ : am_S} {k j : Nat} {x : Int64} : ∀ a, a ≠ k → (am_upL σ k j x).1 a = σ.1 a ∧ (am_upL σ k j x).2 a = σ.2 a := by
  intro a ha
  refine ⟨rfl, ?_⟩
  funext b
  simp [am_upL, ha]
theorem AW_put {a ci j idx : Nat} {fs : List (Option Nat)} {x : Int} {ty : FieldType} (hd : decode M.2.1 pc = .ok (.putfield idx, 3)) (hf : am_fp M.1.cls idx ci j ty) (ht : T[a]? = some (.inl (ci, fs))) (hv : fs[j]? = some none) (hn : narrow ty (.int (Int32.ofInt x)) = .int (Int32.ofInt x)) (hfit : fits ty (.int (Int32.ofInt x)) = true) (k : AW T M (pc + 3) lv st (am_up σ a j x) Q) : AW T M pc lv (vI x :: vR a :: st) σ Q := by
  intro E p l e s m args below meth c H locs ls C G S L
  obtain ⟨Cn, TT, N, ty0, h1, h2, h3, h4, h5, h6, h7, h8, h9⟩ := hf
  refine va_put (D := E.2.1) C.1 C.2.1 (Ts := am_wd M) C.2.2.2.2.2.1 (fun w hw => List.mem_cons_of_mem _ (h3 w hw)) ty0 h6 h7 C.2.2.2.2.1 G.2.1 G.1 G.2.2.1 S a (am_ws_get ht) h1 j h2 (C.2.2.2.2.2.1 _ (List.mem_cons_of_mem _ h4)) (fun x hx => by rw [h5] at hx; exact hx) h8 h9 hn hfit (by
    rw [List.length_mapIdx]; exact (List.getElem?_eq_some_iff.mp hv).1) hd (fun H1 locs1 hP hD hS => ?_)
  have he : (fs.mapIdx (fun j f => am_fv E σ a j f)).set j (.int (Int32.ofInt x)) = fs.mapIdx (fun j' f => am_fv E (am_up σ a j x) a j' f) := by
    apply List.ext_getElem?
    intro i
    by_cases hi : i = j
    · subst hi
      rw [List.getElem?_set_self (by rw [List.length_mapIdx]; exact (List.getElem?_eq_some_iff.mp hv).1), List.getElem?_mapIdx, hv]
      simp [am_fv, am_up]
    · rw [List.getElem?_set_ne (fun h => hi h.symm), List.getElem?_mapIdx, List.getElem?_mapIdx]
      cases hfi : fs[i]? with
      | none => rfl
      | some o => cases o <;> simp [am_fv, am_up, hi]
  have hw : (am_ws T E σ).set a (E.1 a, .inr (ci, (fs.mapIdx (fun j f => am_fv E σ a j f)).set j (.int (Int32.ofInt x)))) = am_ws T E (am_up σ a j x) := by
    rw [he]
    exact am_ws_set ht am_up_off
  exact k E p l e s m args below meth c H1 locs1 ls C ⟨by rw [← hw]; exact hP, G.2.1, by rw [← hw]; exact hD, G.2.2.2⟩ hS L
theorem AW_iald {a n : Nat} {i : Int} (hd : decode M.2.1 pc = .ok (.iaload, 1)) (ht : T[a]? = some (.inr (.inl (0, n)))) (hn : n < 2147483648) (hi : 0 ≤ i ∧ i < n) (k : AW T M (pc + 1) lv (vI (σ.1 a i.toNat) :: st) σ Q) : AW T M pc lv (vI i :: vR a :: st) σ Q := by
  intro E p l e s m args below meth c H locs ls C G S L
  refine va_iald (D := E.2.1) C.1 C.2.1 G.2.1 G.1 a 0 (am_ws_get ht) rfl (i32_in hn hi) hd ?_
  rw [i32_clamp ⟨hi.1, by omega⟩]
  exact k E p l e s m args below meth c H locs ls C G S L
theorem AW_zald {a n : Nat} {i : Int} (hd : decode M.2.1 pc = .ok (.baload, 1)) (ht : T[a]? = some (.inr (.inl (1, n)))) (hn : n < 2147483648) (hi : 0 ≤ i ∧ i < n) (k : AW T M (pc + 1) lv (vI (σ.1 a i.toNat) :: st) σ Q) : AW T M pc lv (vI i :: vR a :: st) σ Q := by
  intro E p l e s m args below meth c H locs ls C G S L
  refine va_zald (D := E.2.1) C.1 C.2.1 G.2.1 G.1 a 1 (am_ws_get ht) rfl (i32_in hn hi) hd ?_
  rw [i32_clamp ⟨hi.1, by omega⟩]
  exact k E p l e s m args below meth c H locs ls C G S L
theorem AW_lald {a n : Nat} {i : Int} (hd : decode M.2.1 pc = .ok (.laload, 1)) (ht : T[a]? = some (.inr (.inl (2, n)))) (hn : n < 2147483648) (hi : 0 ≤ i ∧ i < n) (k : AW T M (pc + 1) lv (vL (σ.2 a i.toNat) :: st) σ Q) : AW T M pc lv (vI i :: vR a :: st) σ Q := by
  intro E p l e s m args below meth c H locs ls C G S L
  refine va_lald (D := E.2.1) C.1 C.2.1 G.2.1 G.1 a 2 (am_ws_get ht) rfl (i32_in hn hi) hd ?_
  rw [i32_clamp ⟨hi.1, by omega⟩]
  exact k E p l e s m args below meth c H locs ls C G S L
theorem AW_aald {a r : Nat} {i : Int} {rs : List Nat} (hd : decode M.2.1 pc = .ok (.aaload, 1)) (ht : T[a]? = some (.inr (.inr rs))) (hn : rs.length < 2147483648) (hi : 0 ≤ i ∧ i < rs.length) (hr : rs[i.toNat]? = some r) (k : AW T M (pc + 1) lv (vR r :: st) σ Q) : AW T M pc lv (vI i :: vR a :: st) σ Q := by
  intro E p l e s m args below meth c H locs ls C G S L
  refine va_aldq (D := E.2.1) C.1 C.2.1 G.2.1 G.1 a 3 (am_ws_get ht) rfl (i32_in hn hi) hd ?_
  rw [i32_clamp ⟨hi.1, by omega⟩]
  have h := k E p l e s m args below meth c H locs ls C G S L
  rw [hr]
  exact h
theorem AW_alen {a n : Nat} (hd : decode M.2.1 pc = .ok (.arraylength, 1)) (ht : T[a]? = some (.inr (.inl (0, n)))) (k : AW T M (pc + 1) lv (vI (n : Int) :: st) σ Q) : AW T M pc lv (vR a :: st) σ Q := by
  intro E p l e s m args below meth c H locs ls C G S L
  exact va_alen (D := E.2.1) C.1 C.2.1 G.2.1 G.1 a 0 (am_ws_get ht) (ty := .int) rfl (v := Int32.ofInt (n : Int)) Int32.ofInt_eq_ofNat.symm hd (k E p l e s m args below meth c H locs ls C G S L)
theorem am_upd_eq {a j : Nat} {x : Int} : upd (fun j => Int32.ofInt (σ.1 a j)) j (Int32.ofInt x) = fun b => Int32.ofInt ((am_up σ a j x).1 a b) := by
  funext b
  by_cases h : b = j <;> simp [upd, am_up, h]
theorem AW_iast {a n : Nat} {i x : Int} (hd : decode M.2.1 pc = .ok (.iastore, 1)) (ht : T[a]? = some (.inr (.inl (0, n)))) (hn : n < 2147483648) (hi : 0 ≤ i ∧ i < n) (k : AW T M (pc + 1) lv st (am_up σ a i.toNat x) Q) : AW T M pc lv (vI x :: vI i :: vR a :: st) σ Q := by
  intro E p l e s m args below meth c H locs ls C G S L
  refine va_iast (D := E.2.1) C.1 C.2.1 G.2.1 G.1 G.2.2.1 S a 0 (am_ws_get ht) rfl (i32_in hn hi) hd (fun H1 locs1 hP hD hS => ?_)
  rw [i32_clamp ⟨hi.1, by omega⟩, am_upd_eq] at hP hD
  have hw := am_ws_set (E := E) (σ := σ) (σ' := am_up σ a i.toNat x) ht am_up_off
  have hw' : (am_ws T E σ).set a (E.1 a, .inl (E.2.2 0, n, .inl (fun b => Int32.ofInt ((am_up σ a i.toNat x).1 a b)))) = am_ws T E (am_up σ a i.toNat x) := hw
  rw [hw'] at hP hD
  exact k E p l e s m args below meth c H1 locs1 ls C ⟨hP, G.2.1, hD, G.2.2.2⟩ hS L
theorem vp_nar_z {x : Int} (hx : x = 0 ∨ x = 1) : vp_nar .boolean (Int32.ofInt x) = Int32.ofInt x := by
  rcases hx with rfl | rfl <;> decide
theorem AW_zast {a n : Nat} {i x : Int} (hd : decode M.2.1 pc = .ok (.bastore, 1)) (ht : T[a]? = some (.inr (.inl (1, n)))) (hn : n < 2147483648) (hi : 0 ≤ i ∧ i < n) (hx : x = 0 ∨ x = 1) (k : AW T M (pc + 1) lv st (am_up σ a i.toNat x) Q) : AW T M pc lv (vI x :: vI i :: vR a :: st) σ Q := by
  intro E p l e s m args below meth c H locs ls C G S L
  refine va_zast (D := E.2.1) C.1 C.2.1 G.2.1 G.1 G.2.2.1 S a 1 (am_ws_get ht) rfl (i32_in hn hi) hd (fun H1 locs1 hP hD hS => ?_)
  rw [vp_nar_z hx, i32_clamp ⟨hi.1, by omega⟩, am_upd_eq] at hP hD
  have hw := am_ws_set (E := E) (σ := σ) (σ' := am_up σ a i.toNat x) ht am_up_off
  have hw' : (am_ws T E σ).set a (E.1 a, .inl (E.2.2 1, n, .inl (fun b => Int32.ofInt ((am_up σ a i.toNat x).1 a b)))) = am_ws T E (am_up σ a i.toNat x) := hw
  rw [hw'] at hP hD
  exact k E p l e s m args below meth c H1 locs1 ls C ⟨hP, G.2.1, hD, G.2.2.2⟩ hS L
theorem am_updL_eq {a j : Nat} {x : Int64} : vp_updL (σ.2 a) j x = (am_upL σ a j x).2 a := by
  funext b
  by_cases h : b = j <;> simp [vp_updL, am_upL, h]
theorem AW_last {a n : Nat} {i : Int} {x : Int64} (hd : decode M.2.1 pc = .ok (.lastore, 1)) (ht : T[a]? = some (.inr (.inl (2, n)))) (hn : n < 2147483648) (hi : 0 ≤ i ∧ i < n) (k : AW T M (pc + 1) lv st (am_upL σ a i.toNat x) Q) : AW T M pc lv (vL x :: vI i :: vR a :: st) σ Q := by
  intro E p l e s m args below meth c H locs ls C G S L
  refine va_last (D := E.2.1) C.1 C.2.1 G.2.1 G.1 G.2.2.1 S a 2 (am_ws_get ht) rfl (i32_in hn hi) hd (fun H1 locs1 hP hD hS => ?_)
  rw [i32_clamp ⟨hi.1, by omega⟩, am_updL_eq] at hP hD
  have hw := am_ws_set (E := E) (σ := σ) (σ' := am_upL σ a i.toNat x) ht am_upL_off
  have hw' : (am_ws T E σ).set a (E.1 a, .inl (E.2.2 2, n, .inr (.inl ((am_upL σ a i.toNat x).2 a)))) = am_ws T E (am_upL σ a i.toNat x) := hw
  rw [hw'] at hP hD
  exact k E p l e s m args below meth c H1 locs1 ls C ⟨hP, G.2.1, hD, G.2.2.2⟩ hS L
-- ===== longs =====
theorem AW_lushr {x v : Int64} {y : Int} (hd : decode M.2.1 pc = .ok (.lushr, 1)) (hv : (x.toUInt64 >>> ((Int32.ofInt y).toInt64.toUInt64 &&& Int64.toUInt64 63)).toInt64 = v) (k : AW T M (pc + 1) lv (vL v :: st) σ Q) : AW T M pc lv (vI y :: vL x :: st) σ Q := by
  intro E p l e s m args below meth c H locs ls C G S L
  exact lv_lushr C.1 C.2.1 hd hv (k E p l e s m args below meth c H locs ls C G S L)
theorem AW_lshl {x v : Int64} {y : Int} (hd : decode M.2.1 pc = .ok (.lshl, 1)) (hv : x <<< ((Int32.ofInt y).toInt64 &&& 63) = v) (k : AW T M (pc + 1) lv (vL v :: st) σ Q) : AW T M pc lv (vI y :: vL x :: st) σ Q := by
  intro E p l e s m args below meth c H locs ls C G S L
  exact lv_lshl C.1 C.2.1 hd hv (k E p l e s m args below meth c H locs ls C G S L)
theorem AW_land {x y : Int64} (hd : decode M.2.1 pc = .ok (.land, 1)) (k : AW T M (pc + 1) lv (vL (x &&& y) :: st) σ Q) : AW T M pc lv (vL y :: vL x :: st) σ Q := by
  intro E p l e s m args below meth c H locs ls C G S L
  exact lv_land C.1 C.2.1 hd (k E p l e s m args below meth c H locs ls C G S L)
theorem AW_lor {x y : Int64} (hd : decode M.2.1 pc = .ok (.lor, 1)) (k : AW T M (pc + 1) lv (vL (x ||| y) :: st) σ Q) : AW T M pc lv (vL y :: vL x :: st) σ Q := by
  intro E p l e s m args below meth c H locs ls C G S L
  exact lv_lor C.1 C.2.1 hd (k E p l e s m args below meth c H locs ls C G S L)
theorem AW_lcmp {x y : Int64} {z : Int} (hd : decode M.2.1 pc = .ok (.lcmp, 1)) (hz : lg_cmp x y = Int32.ofInt z) (k : AW T M (pc + 1) lv (vI z :: st) σ Q) : AW T M pc lv (vL y :: vL x :: st) σ Q := by
  intro E p l e s m args below meth c H locs ls C G S L
  refine W.lcmp C.1 C.2.1 hd ?_
  rw [hz]
  exact k E p l e s m args below meth c H locs ls C G S L
theorem AW_dup2L {x : Int} {a : Nat} (hd : decode M.2.1 pc = .ok (.dup2, 1)) (k : AW T M (pc + 1) lv (vI x :: vR a :: vI x :: vR a :: st) σ Q) : AW T M pc lv (vI x :: vR a :: st) σ Q := AW_dup2 hd k
-- ===== switches =====
theorem AW_tableIn {dflt lo hi : Int} {offs : Array Int} {len : Nat} {x off : Int} (tgt : Nat) (hd : decode M.2.1 pc = .ok (.tableswitch dflt lo hi offs, len)) (hx : -2147483648 ≤ x ∧ x < 2147483648) (h1 : lo ≤ x ∧ x ≤ hi) (ho : offs[(x - lo).toNat]? = some off) (ht : (pc : Int) + off = (tgt : Int)) (k : AW T M tgt lv st σ Q) : AW T M pc lv (vI x :: st) σ Q := by
  intro E p l e s m args below meth c H locs ls C G S L
  refine lv_tableIn C.1 C.2.1 hd (by rw [i32_toInt hx]; omega) (by rw [i32_toInt hx]; omega) (by rw [i32_toInt hx]; exact ho) ht ?_
  exact k E p l e s m args below meth c H locs ls C G S L
theorem AW_tableOut {dflt lo hi : Int} {offs : Array Int} {len : Nat} {x : Int} (tgt : Nat) (hd : decode M.2.1 pc = .ok (.tableswitch dflt lo hi offs, len)) (hx : -2147483648 ≤ x ∧ x < 2147483648) (h1 : x < lo ∨ hi < x) (ht : (pc : Int) + dflt = (tgt : Int)) (k : AW T M tgt lv st σ Q) : AW T M pc lv (vI x :: st) σ Q := by
  intro E p l e s m args below meth c H locs ls C G S L
  refine lv_tableOut C.1 C.2.1 hd (by rw [i32_toInt hx]; exact h1) ht ?_
  exact k E p l e s m args below meth c H locs ls C G S L
-- ===== ends =====
theorem am_end {E : am_E} {s t : State} {H : Heap} {locs : List Loc} {r : Option am_V} {args : Array Value} (hq : Q r σ) (G : am_G T E σ s H) (S : va_S (am_A T E) s.heap H locs) (ht : t.heap = H) (hW : s.WarmedH t.vm) : am_Qc T E Q args s (.returned (r.map (am_tr E))) t :=
  ⟨⟨r, σ, rfl, hq, by rw [ht]; exact am_G.moved hW G⟩, S.F ht⟩
theorem AW_iret {z : Int} (hd : decode M.2.1 pc = .ok (.ireturn, 1)) (hr : M.2.2.2.1 = some .int) (hq : Q (some (vI z)) σ) : AW T M pc lv [vI z] σ Q := by
  intro E p l e s m args below meth c H locs ls C G S L
  exact W.iret C.1 C.2.1 (C.2.2.1.trans hr) (fun t ht hW => am_end hq G S ht hW) S.2.2 hd C.2.2.2.2.2.2
theorem AW_zret {z : Int} (hd : decode M.2.1 pc = .ok (.ireturn, 1)) (hr : M.2.2.2.1 = some .boolean) (hz : z = 0 ∨ z = 1) (hq : Q (some (vI z)) σ) : AW T M pc lv [vI z] σ Q := by
  intro E p l e s m args below meth c H locs ls C G S L
  exact W.zret C.1 C.2.1 (C.2.2.1.trans hr) (by rcases hz with rfl | rfl <;> rfl) (fun t ht hW => am_end hq G S ht hW) S.2.2 hd C.2.2.2.2.2.2
theorem AW_vret (hd : decode M.2.1 pc = .ok (.return_, 1)) (hr : M.2.2.2.1 = none) (hq : Q none σ) : AW T M pc lv [] σ Q := by
  intro E p l e s m args below meth c H locs ls C G S L
  exact W.vret C.1 C.2.1 (C.2.2.1.trans hr) (fun t ht hW => am_end hq G S ht hW) S.2.2 hd C.2.2.2.2.2.2
theorem AW_aret {k : Nat} {n : String} (hd : decode M.2.1 pc = .ok (.areturn, 1)) (hr : M.2.2.2.1 = some (.object n)) (hq : Q (some (vR k)) σ) : AW T M pc lv [vR k] σ Q := by
  intro E p l e s m args below meth c H locs ls C G S L
  exact W.aret C.1 C.2.1 (C.2.2.1.trans hr) (Or.inl ⟨n, rfl⟩) (Or.inr ⟨_, rfl⟩) (fun t ht hW => am_end hq G S ht hW) S.2.2 hd C.2.2.2.2.2.2
theorem AW_weaken {Q' : Option am_V → am_S → Prop} (h : ∀ r σ', Q' r σ' → Q r σ') (k : AW T M pc lv st σ Q') : AW T M pc lv st σ Q := by
  intro E p l e s m args below meth c H locs ls C G S L U hU X
  obtain ⟨t, h1, o, h2, h3, ⟨⟨r, σ', h4, h5, h6⟩, h7⟩, h8⟩ := k E p l e s m args below meth c H locs ls C G S L U hU X
  exact ⟨t, h1, o, h2, h3, ⟨⟨r, σ', h4, h _ _ h5, h6⟩, h7⟩, h8⟩
end AMF
-- ===== methods: a contract out of a walk, a call out of a contract =====
theorem lw_good : ∀ w ∈ am_tb, (w.onTables && w.keeps) = true ∨ ∃ ty, w = .arrayClass ty := fun w hw => good_of_word (List.mem_filter.mp hw).2
theorem am_lv_args {E : am_E} : ∀ (av : List am_V) (n i : Nat) (v : am_V), (∀ u ∈ av, (am_tr E u).category = 1) → av[i]? = some v → (n + i, am_tr E v) ∈ lv_args n (av.map (am_tr E)) := by
  intro av
  induction av with
  | nil => intro n i v _ h; cases h
  | cons a av ih =>
    intro n i v hc h
    have h1 : lv_args n ((a :: av).map (am_tr E)) = (n, am_tr E a) :: lv_args (n + 1) (av.map (am_tr E)) := by
      simp only [List.map_cons, lv_args, hc a List.mem_cons_self]
      rfl
    rw [h1]
    cases i with
    | zero => cases h; exact List.mem_cons_self
    | succ i =>
      have := ih (n + 1) i v (fun u hu => hc u (List.mem_cons_of_mem _ hu)) h
      rw [show n + (i + 1) = n + 1 + i by omega]
      exact List.mem_cons_of_mem _ this
theorem am_sl_len {E : am_E} : ∀ (av : List am_V), (∀ u ∈ av, (am_tr E u).category = 1) → (lg_sl (av.map (am_tr E))).length = av.length := by
  intro av
  induction av with
  | nil => intro _; rfl
  | cons a av ih =>
    intro hc
    have h1 := hc a List.mem_cons_self
    have h2 := ih (fun u hu => hc u (List.mem_cons_of_mem _ hu))
    simp [lg_sl, h1, h2] at *
    try omega
/-- the locals at a method's entry -/
def am_lv0 (av : List am_V) (n : Nat) : List (Option am_V) := av.map some ++ List.replicate (n - av.length) none
theorem Runs.of {T : List am_C} {M : am_M} {av : List am_V} {σ : am_S} {Q : Option am_V → am_S → Prop} (hy : plainName M.1.cls = true) (hk : M.2.2.2.2.2 = (0, 0)) (hcat : ∀ u ∈ av, ∀ x, u ≠ vL x) (hlen : av.length ≤ M.2.2.1) (h : AW T M 0 (am_lv0 av M.2.2.1) [] σ Q) : Runs T M av σ Q := by
  intro l E
  refine Met.ofW (cc := M.2.1) (maxL := M.2.2.1) (ret := M.2.2.2.1) hy rfl ?_
  intro p e s m args below meth c s₁ B hml hv
  obtain ⟨rfl, G⟩ := hv
  have hc : ∀ u ∈ av, (am_tr E u).category = 1 := fun u hu => am_cat1 (hcat u hu)
  have hl := lv_entry (av.map (am_tr E)) (n := M.2.2.1) (by rw [am_sl_len av hc]; exact hlen)
  rw [lg_entry_eq]
  have C : am_Cx M p s m (av.map (am_tr E)).toArray meth c := ⟨B.exec, B.bytes, B.returns, hml, findClass_of_methodNamed B.named, atoms_spec (ws := am_wd M) B.pre, B.notSynchronized⟩
  have hk1 : M.2.2.2.2.2.1 = 0 := by rw [hk]
  have hk2 : M.2.2.2.2.2.2 = 0 := by rw [hk]
  have hw := h E p l e s m (av.map (am_tr E)).toArray below meth c s.heap [] _ C G va_S.rf ⟨hl.1, hl.2.1, fun i v hi hcv => ?_⟩
  · rw [hk1, hk2] at hw ⊢
    exact hw
  · have : av[i]? = some v := by
      unfold am_lv0 at hi
      by_cases hlt : i < av.length
      · rw [List.getElem?_append_left (by simpa using hlt), List.getElem?_map] at hi
        cases hav : av[i]? with
        | none => rw [hav] at hi; cases hi
        | some w => rw [hav] at hi; cases hi; rfl
      · rw [List.getElem?_append_right (by simpa using hlt), List.getElem?_replicate] at hi
        split at hi <;> cases hi
    have hm := am_lv_args (E := E) av 0 i v hc this
    have := hl.2.2 _ hm
    simpa using this
theorem am_blind {T : List am_C} {E : am_E} {av : List am_V} {σ : am_S} : FrameBlind (am_Pc T E av σ) := by
  intro a U g mk h
  exact ⟨h.1, h.2.1, va_K.moved (u := U) (U := U.calling g mk a) (Vm.Alike.refl U.vm) h.2.2.1, h.2.2.2.1, va_Nw.same rfl (u := U) rfl h.2.2.2.2.1, va_Nw.same rfl (u := U) rfl h.2.2.2.2.2⟩
/-- a link to a method, among the tables' words -/
def am_lk (own : String) (idx : Nat) (y : am_M) (n : Nat) : Prop := Cond.methodLink own idx y.1 ∈ am_tb ∧ Cond.code y.1 y.2.1 y.2.2.1 y.2.2.2.1 ∈ am_tb ∧ Cond.initialized y.1.cls ∈ am_tb ∧ (y.1.cls ≠ "java/lang/invoke/MethodHandle" ∧ y.1.cls ≠ "java/lang/invoke/VarHandle") ∧ (parseMethodDescriptor y.1.desc).map (fun d => d.parameters.length) = some n
def am_lv' (own : String) (idx : Nat) (y : am_M) (n : Nat) : Prop := am_lk own idx y n ∧ Cond.instanceMethod y.1 ∈ am_tb ∧ Cond.selects y.1.cls y.1 y.1 ∈ am_tb
def am_ls (own : String) (idx : Nat) (y : am_M) (n : Nat) : Prop := am_lk own idx y n ∧ Cond.static y.1 ∈ am_tb
/-- a call's room: the callee's frames and words, no cell -/
def am_fit (M y : am_M) : Prop := y.2.2.2.2.1.cells = 0 ∧ y.2.2.2.2.1.slots = 0 ∧ y.2.2.2.2.2 = (0, 0) ∧ y.2.2.2.2.1.frames + 1 ≤ M.2.2.2.2.1.frames ∧ 8 + (y.2.2.1 + 11) + y.2.2.2.2.1.locals ≤ M.2.2.2.2.1.locals ∧ M.2.2.2.2.2.1 ≤ M.2.2.2.2.1.cells ∧ M.2.2.2.2.2.2 ≤ M.2.2.2.2.1.slots
theorem am_cats {E : am_E} (rest : List am_V) (h : rest.length ≤ 4) : ((rest.map (am_tr E)).map fun v => v.category).sum ≤ 8 := by
  have h2 : ∀ r : List am_V, ((r.map (am_tr E)).map fun v => v.category).sum ≤ 2 * r.length := by
    intro r
    induction r with
    | nil => simp
    | cons a r ih =>
      have : (am_tr E a).category ≤ 2 := by rcases a with z | x | k <;> simp [am_tr, Value.category]
      simp only [List.map_cons, List.sum_cons, List.length_cons]
      omega
  have := h2 rest
  omega
section AMK
variable {T : List am_C} {M : am_M} {pc : Nat} {lv : List (Option am_V)} {st : List am_V} {σ : am_S} {Q : Option am_V → am_S → Prop}
theorem am_words {s : State} {args : Array Value} {y : am_M} (hts : ∀ w ∈ am_wd M, w.before args s = true) (hcode : Cond.code y.1 y.2.1 y.2.2.1 y.2.2.2.1 ∈ am_tb) : ∀ w ∈ am_wd y, ∀ (a' : Array Value) (U : State), s.WarmedH U.vm → w.before a' U = true := by
  intro w hw a' U hW
  have hm : w ∈ am_tb := by
    rcases List.mem_cons.mp hw with rfl | h
    · exact hcode
    · exact h
  exact word_at hW (lw_good w hm) (hts w (List.mem_cons_of_mem _ hm))
theorem AW_ofRun {y : am_M} {Q' : Option am_V → am_S → Prop} {rest : List am_V} {E : am_E} {p : Program} {l : Launch} {e : Env} {s : State} {m : MethodId} {args a : Array Value} {below : List Frame} {meth : Method} {c : Code} {H : Heap} {locs : List Loc} {ls : Array Slot} {cells slots : Nat} {R : Room} {Z : State → Prop} {st0 : List Value}
    (hr : va_Run p l e R s m args below meth c H locs cells slots 0 0 (F0 m pc ls st0) (rest.map (am_tr E)) (am_Qc T E Q' a) (am_A T E)) (G : am_G T E σ s H) (S : va_S (am_A T E) s.heap H locs)
    (kk : ∀ (r : Option am_V) (σ' : am_S) (H1 : Heap) (locs1 : List Loc), Q' r σ' → am_G T E σ' s H1 → va_S (am_A T E) s.heap H1 locs1 → W p l e R s m args below meth c H1 locs1 cells slots Z (F0 m (pc + 3) ls ((r.toList ++ rest).map (am_tr E)))) : W p l e R s m args below meth c H locs cells slots Z (F0 m pc ls st0) := by
  intro U hU X
  obtain ⟨v, st₀, t, T', L, h0, X', hL, e1, e2, ⟨⟨r, σ', hv, hq, hG⟩, hz, hk⟩, go⟩ := hr U hU X
  have hv' : v = r.map (am_tr E) := by injection hv
  have hS : va_S (am_A T E) s.heap T'.heap (locs ++ L) := by
    refine ⟨Nat.le_trans S.1 (by rw [e1, ← h0]; exact hz), fun q h1 h2 => ?_, fun q hq => ?_⟩
    · rw [e1, hk q (by rw [h0]; exact Nat.lt_of_lt_of_le h1 S.1) h2, h0]
      exact S.2.1 q h1 h2
    · rcases List.mem_append.mp hq with h | h
      · exact S.2.2 q h
      · exact hL q h
  have hG' : am_G T E σ' s T'.heap := ⟨by rw [e1]; exact hG.1, G.2.1, hG.2.2.1, G.2.2.2⟩
  obtain ⟨t2, a1, b1⟩ := kk r σ' T'.heap (locs ++ L) hq hG' hS T' rfl X'
  refine ⟨t2, go t2 ?_, b1⟩
  have he : v.toList ++ rest.map (am_tr E) = (r.toList ++ rest).map (am_tr E) := by
    rw [hv', List.map_append]
    cases r <;> rfl
  rw [he]
  exact a1
theorem AW_callV {y : am_M} {idx n b ci : Nat} {fs : List (Option Nat)} {Q' : Option am_V → am_S → Prop} {av rest : List am_V} (hd : decode M.2.1 pc = .ok (.invokevirtual idx, 3)) (hk : am_lv' M.1.cls idx y n) (hfit : am_fit M y) (ht : T[b]? = some (.inl (ci, fs))) (hc : (am_cl[ci]?).map (fun q => q.1) = some y.1.cls) (hn : av.length = n) (h4 : rest.length ≤ 4) (hR : Runs T y (vR b :: av) σ Q') (kk : ∀ r σ', Q' r σ' → AW T M (pc + 3) lv (r.toList ++ rest) σ' Q) : AW T M pc lv (av.reverse ++ vR b :: rest) σ Q := by
  intro E p l e s m args below meth c H locs ls C G S L
  obtain ⟨⟨k1, k2, k3, k4, k5⟩, k6, k7⟩ := hk
  obtain ⟨f1, f2, f3, f4, f5, f6, f7⟩ := hfit
  have hts := C.2.2.2.2.2.1
  have hT : ∀ w ∈ am_tb, w.before args s = true := fun w hw => hts w (List.mem_cons_of_mem _ hw)
  obtain ⟨qc, hqc, hqn⟩ : ∃ qc, am_cl[ci]? = some qc ∧ qc.1 = y.1.cls := by
    cases h : am_cl[ci]? with
    | none => rw [h] at hc; cases hc
    | some q => rw [h] at hc; exact ⟨q, rfl, Option.some.inj hc⟩
  have hrun := va_runV (p := p) (l := l) (e := e) (R := M.2.2.2.2.1) (s := s) (m := m) (args := args) (below := below) (meth := meth) (c := c) (H := H) (locs := locs) (cells := M.2.2.2.2.2.1) (slots := M.2.2.2.2.2.2) (As := av.map (am_tr E)) (rest := rest.map (am_tr E)) (b := E.1 b) (C := y.1.cls) (g := F0 m pc ls ((av.reverse ++ vR b :: rest).map (am_tr E))) (n := n)
    ⟨C.1, C.2.1, C.2.2.2.1, C.2.2.2.2.1, hts⟩ (hR l E) ⟨⟨by rw [f1, f3], by rw [f2, f3], f4, f5, am_words hts k2, List.mem_cons_self, hT _ k2, hT _ k3, k4, fun sig h => by rw [h] at k5; exact (Option.some.inj k5).symm, hT _ k1⟩, hT _ k6, hT _ k7⟩
    ⟨am_blind, by obtain ⟨cell, x1, x2, x3⟩ := va_recv G.2.1 G.1 hqc (am_ws_get ht); exact ⟨cell, x1, x2, by rw [← hqn]; exact x3⟩, fun U hU hW => ⟨rfl, by rw [hU]; exact am_G.moved hW G⟩⟩ rfl (by rw [List.length_map]; exact hn) L.1 (by simp [am_tr, List.map_reverse]) (by simpa using (lv_room (m := m) (pc := pc) (ls := ls) (rest := []) (am_cats (E := E) rest h4))) hd (by rw [f3]; exact ⟨f6, f7⟩)
  rw [f3] at hrun
  refine AW_ofRun (y := y) (rest := rest) hrun G S (fun r σ' H1 locs1 hq G1 S1 => ?_)
  exact kk r σ' hq E p l e s m args below meth c H1 locs1 ls C G1 S1 L
theorem AW_callS {y : am_M} {idx n : Nat} {Q' : Option am_V → am_S → Prop} {av rest : List am_V} (hd : decode M.2.1 pc = .ok (.invokestatic idx, 3)) (hk : am_ls M.1.cls idx y n) (hfit : am_fit M y) (hn : av.length = n) (h4 : rest.length ≤ 4) (hR : Runs T y av σ Q') (kk : ∀ r σ', Q' r σ' → AW T M (pc + 3) lv (r.toList ++ rest) σ' Q) : AW T M pc lv (av.reverse ++ rest) σ Q := by
  intro E p l e s m args below meth c H locs ls C G S L
  obtain ⟨⟨k1, k2, k3, k4, k5⟩, k6⟩ := hk
  obtain ⟨f1, f2, f3, f4, f5, f6, f7⟩ := hfit
  have hts := C.2.2.2.2.2.1
  have hT : ∀ w ∈ am_tb, w.before args s = true := fun w hw => hts w (List.mem_cons_of_mem _ hw)
  have hrun := va_runS (p := p) (l := l) (e := e) (R := M.2.2.2.2.1) (s := s) (m := m) (args := args) (below := below) (meth := meth) (c := c) (H := H) (locs := locs) (cells := M.2.2.2.2.2.1) (slots := M.2.2.2.2.2.2) (As := av.map (am_tr E)) (rest := rest.map (am_tr E)) (g := F0 m pc ls ((av.reverse ++ rest).map (am_tr E))) (n := n)
    ⟨C.1, C.2.1, C.2.2.2.1, C.2.2.2.2.1, hts⟩ (hR l E) ⟨⟨by rw [f1, f3], by rw [f2, f3], f4, f5, am_words hts k2, List.mem_cons_self, hT _ k2, hT _ k3, k4, fun sig h => by rw [h] at k5; exact (Option.some.inj k5).symm, hT _ k1⟩, hT _ k6⟩
    ⟨am_blind, fun U hU hW => ⟨rfl, by rw [hU]; exact am_G.moved hW G⟩⟩ rfl (by rw [List.length_map]; exact hn) L.1 (by simp [List.map_reverse]) (by simpa using (lv_room (m := m) (pc := pc) (ls := ls) (rest := []) (am_cats (E := E) rest h4))) hd (by rw [f3]; exact ⟨f6, f7⟩)
  rw [f3] at hrun
  refine AW_ofRun (y := y) (rest := rest) hrun G S (fun r σ' H1 locs1 hq G1 S1 => ?_)
  exact kk r σ' hq E p l e s m args below meth c H1 locs1 ls C G1 S1 L
theorem AW_callSN {y : am_M} {idx n : Nat} {host : String} {Q' : Option am_V → am_S → Prop} {av rest : List am_V} (hd : decode M.2.1 pc = .ok (.invokestatic idx, 3)) (hk : Cond.code y.1 y.2.1 y.2.2.1 y.2.2.2.1 ∈ am_tb ∧ Cond.initialized y.1.cls ∈ am_tb ∧ (y.1.cls ≠ "java/lang/invoke/MethodHandle" ∧ y.1.cls ≠ "java/lang/invoke/VarHandle") ∧ (parseMethodDescriptor y.1.desc).map (fun d => d.parameters.length) = some n ∧ Cond.static y.1 ∈ am_tb) (hnest : ∀ U, am_N U → va_Nw (.methodLinkNest M.1.cls idx y.1 host) U) (hfit : am_fit M y) (hn : av.length = n) (h4 : rest.length ≤ 4) (hR : Runs T y av σ Q') (kk : ∀ r σ', Q' r σ' → AW T M (pc + 3) lv (r.toList ++ rest) σ' Q) : AW T M pc lv (av.reverse ++ rest) σ Q := by
  intro E p l e s m args below meth c H locs ls C G S L
  obtain ⟨k2, k3, k4, k5, k6⟩ := hk
  obtain ⟨f1, f2, f3, f4, f5, f6, f7⟩ := hfit
  have hts := C.2.2.2.2.2.1
  have hT : ∀ w ∈ am_tb, w.before args s = true := fun w hw => hts w (List.mem_cons_of_mem _ hw)
  have hrun := va_runSN (p := p) (l := l) (e := e) (R := M.2.2.2.2.1) (s := s) (m := m) (args := args) (below := below) (meth := meth) (c := c) (H := H) (locs := locs) (cells := M.2.2.2.2.2.1) (slots := M.2.2.2.2.2.2) (As := av.map (am_tr E)) (rest := rest.map (am_tr E)) (g := F0 m pc ls ((av.reverse ++ rest).map (am_tr E))) (n := n) (host := host) (index := idx)
    ⟨C.1, C.2.1, C.2.2.2.1, C.2.2.2.2.1, hts⟩ (hR l E) ⟨⟨⟨by rw [f1, f3], by rw [f2, f3], f4, f5, am_words hts k2, List.mem_cons_self⟩, hT _ k2, hT _ k3, k4, fun sig h => by rw [h] at k5; exact (Option.some.inj k5).symm, va_Nw.use rfl (hnest s G.2.2.2)⟩, hT _ k6, trivial⟩
    ⟨am_blind, fun U hU hW => ⟨rfl, by rw [hU]; exact am_G.moved hW G⟩⟩ rfl (by rw [List.length_map]; exact hn) L.1 (by simp [List.map_reverse]) (by simpa using (lv_room (m := m) (pc := pc) (ls := ls) (rest := []) (am_cats (E := E) rest h4))) hd (by rw [f3]; exact ⟨f6, f7⟩)
  rw [f3] at hrun
  refine AW_ofRun (y := y) (rest := rest) hrun G S (fun r σ' H1 locs1 hq G1 S1 => ?_)
  exact kk r σ' hq E p l e s m args below meth c H1 locs1 ls C G1 S1 L
end AMK
