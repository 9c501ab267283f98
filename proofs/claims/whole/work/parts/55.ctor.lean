-- ===== constructors: a walk that makes cells; the cells stand as a list ws =====
abbrev ct_Y : Type := va_G × (Nat → ClassId)
def ct_N (U : State) : Prop := am_N U ∧ va_AO "BeltArms$State" U ∧ va_Nw (.methodLinkNest "BeltArms" 11 yX3_init "BeltArms") U ∧ va_Nw (.methodLinkNest "BeltArms$State" 20 yX4_init "BeltArms") U ∧ va_Nw (.methodLinkNest "BeltArms$State" 27 yX0_init "BeltArms") U ∧ va_Nw (.methodLinkNest "BeltArms" 26 yX2_init "BeltArms") U ∧ va_Nw (.methodLinkNest "BeltArms" 36 yX5_init "BeltArms") U
def ct_K (Y : ct_Y) (U : State) : Prop := va_K Y.1 am_cl (am_tys (fun _ => 0, Y)) U ∧ ct_N U
theorem ct_K.moved {Y : ct_Y} {u U : State} (hW : u.WarmedH U.vm) (h : ct_K Y u) : ct_K Y U := ⟨va_K.moved hW.alike h.1, ⟨va_Nw.warmF hW h.2.1.1, va_Nw.warmM hW h.2.1.2⟩, va_AO.moved hW.alike h.2.2.1, va_Nw.warmM hW h.2.2.2.1, va_Nw.warmM hW h.2.2.2.2.1, va_Nw.warmM hW h.2.2.2.2.2.1, va_Nw.warmM hW h.2.2.2.2.2.2.1, va_Nw.warmM hW h.2.2.2.2.2.2.2⟩
theorem ct_K.call {Y : ct_Y} {U : State} {g : JFrame} {mk : MethodId} {a : Array Value} (h : ct_K Y U) : ct_K Y (U.calling g mk a) := ⟨va_K.moved (u := U) (U := U.calling g mk a) (Vm.Alike.refl U.vm) h.1, ⟨va_Nw.same rfl (u := U) rfl h.2.1.1, va_Nw.same rfl (u := U) rfl h.2.1.2⟩, va_AO.moved (u := U) (U := U.calling g mk a) (Vm.Alike.refl U.vm) h.2.2.1, va_Nw.same rfl (u := U) rfl h.2.2.2.1, va_Nw.same rfl (u := U) rfl h.2.2.2.2.1, va_Nw.same rfl (u := U) rfl h.2.2.2.2.2.1, va_Nw.same rfl (u := U) rfl h.2.2.2.2.2.2.1, va_Nw.same rfl (u := U) rfl h.2.2.2.2.2.2.2⟩
def ct_Q (Y : ct_Y) (fin : va_W → Prop) (A : Nat → Prop) : Array Value → State → Outcome → State → Prop := va_Qv fin (fun ws t => va_P Y.1 am_cl ws t.heap ∧ va_D A ws) A
def GW (M : am_M) (Y : ct_Y) (fin : va_W → Prop) (k n pc : Nat) (lvs : List (Nat × Value)) (st : List Value) (ws : va_W) : Prop :=
  ∀ (A : Nat → Prop) (p : Program) (l : Launch) (e : Env) (s : State) (m : MethodId) (args : Array Value) (below : List Frame) (meth : Method) (c : Code) (H : Heap) (locs : List Loc) (ls : Array Slot), am_Cx M p s m args meth c → meth.name = "<init>" → ct_K Y s → (∀ q, s.heap.size ≤ q → A q) → va_P Y.1 am_cl ws H → va_D A ws → va_S A s.heap H locs → lv_has ls M.2.2.1 lvs →
    W p l e M.2.2.2.2.1 s m args below meth c H locs k n (MQ below (ct_Q Y fin A) args s M.2.2.2.2.2.1 M.2.2.2.2.2.2 A) (F0 m pc ls st)
/-- a constructor makes the cells of the table T, its object first -/
def ct_F (Y : ct_Y) (h0 : Nat) (T : List am_C) (P : am_S → Prop) : va_W → Prop := fun ws => ∃ (f : Nat → Nat) (σ : am_S), f 0 = h0 ∧ ws = am_ws T (f, Y) σ ∧ P σ
def ct_P (Y : ct_Y) (h0 sz ci : Nat) (fs : List Value) : Array Value → State → Prop := va_Pc [.ref h0] (fun U => U.heap.size = sz ∧ va_P Y.1 am_cl [(h0, .inr (ci, fs))] U.heap ∧ ct_K Y U)
def Ctor (M : am_M) (ci : Nat) (fs : List Value) (T : List am_C) (P : am_S → Prop) : Prop := ∀ (l : Launch) (Y : ct_Y) (h0 sz : Nat), Met l M.1 (am_wd M) M.2.2.2.2.1 (ct_P Y h0 sz ci fs) (ct_Q Y (ct_F Y h0 T P) (va_A [(h0, .inr (ci, fs))] sz)) M.2.2.2.2.2.1 M.2.2.2.2.2.2 (va_A [(h0, .inr (ci, fs))] sz)
theorem ct_one {A : Nat → Prop} {q : Nat × va_E} (h : A q.1) : va_D A [q] := by
  refine ⟨fun i j p r hp hr _ => ?_, fun k r hr => ?_⟩
  · have h1 : i < 1 := (List.getElem?_eq_some_iff.mp hp).1
    have h2 : j < 1 := (List.getElem?_eq_some_iff.mp hr).1
    omega
  · have h1 : k < 1 := (List.getElem?_eq_some_iff.mp hr).1
    rw [show k = 0 by omega] at hr
    cases hr
    exact h
theorem Ctor.of {M : am_M} {ci : Nat} {fs : List Value} {T : List am_C} {P : am_S → Prop} (hy : plainName M.1.cls = true) (hi : M.1.name = "<init>") (hlen : 1 ≤ M.2.2.1) (h : ∀ (Y : ct_Y) (h0 : Nat), GW M Y (ct_F Y h0 T P) 0 0 0 [(0, .ref h0)] [] [(h0, .inr (ci, fs))]) : Ctor M ci fs T P := by
  intro l Y h0 sz
  refine Met.ofW (cc := M.2.1) (maxL := M.2.2.1) (ret := M.2.2.2.1) hy rfl ?_
  intro p e s m args below meth c s₁ B hml hv
  obtain ⟨rfl, hsz, hP, hK⟩ := hv
  subst hsz
  have hl := lv_entry ([.ref h0]) (n := M.2.2.1) hlen
  rw [lg_entry_eq]
  have C : am_Cx M p s m [Value.ref h0].toArray meth c := ⟨B.exec, B.bytes, B.returns, hml, findClass_of_methodNamed B.named, atoms_spec (ws := am_wd M) B.pre, B.notSynchronized⟩
  have hin : meth.name = "<init>" := (name_of_methodNamed B.named B.method).1.trans hi
  exact h Y h0 (va_A [(h0, .inr (ci, fs))] s.heap.size) p l e s m [Value.ref h0].toArray below meth c s.heap [] _ C hin hK (fun q hq => Or.inr hq) hP (ct_one (Or.inl ⟨0, _, rfl⟩)) va_S.rf hl
section GWK
variable {M : am_M} {Y : ct_Y} {k n pc : Nat} {fin : va_W → Prop} {lvs : List (Nat × Value)} {st : List Value} {ws : va_W}
theorem ct_T {p : Program} {s : State} {m : MethodId} {args : Array Value} {meth : Method} {c : Code} (C : am_Cx M p s m args meth c) : ∀ w ∈ am_tb, w.before args s = true := fun w hw => C.2.2.2.2.2.1 w (List.mem_cons_of_mem _ hw)
theorem GW_aload {j : Fin 4} {i x : Nat} (pl : Nat) (hd : decode M.2.1 pc = .ok (.aload_n j, 1)) (hi : (j : Nat) = i) (hl : lvs[pl]? = some (i, .ref x)) (kk : GW M Y fin k n (pc + 1) lvs (.ref x :: st) ws) : GW M Y fin k n pc lvs st ws := by
  intro A p l e s m args below meth c H locs ls C hn K hA P D S L
  exact lv_aload_n C.1 C.2.1 hd hi (lv_at L pl hl) (kk A p l e s m args below meth c H locs ls C hn K hA P D S L)
theorem GW_iload {j : Fin 4} {i : Nat} {x : Int32} (pl : Nat) (hd : decode M.2.1 pc = .ok (.iload_n j, 1)) (hi : (j : Nat) = i) (hl : lvs[pl]? = some (i, .int x)) (kk : GW M Y fin k n (pc + 1) lvs (.int x :: st) ws) : GW M Y fin k n pc lvs st ws := by
  intro A p l e s m args below meth c H locs ls C hn K hA P D S L
  exact lv_iload_n C.1 C.2.1 hd hi (lv_at L pl hl) (kk A p l e s m args below meth c H locs ls C hn K hA P D S L)
theorem GW_istore {j : Fin 4} {i : Nat} {x : Int32} {lvs' : List (Nat × Value)} (hd : decode M.2.1 pc = .ok (.istore_n j, 1)) (hi : (j : Nat) = i) (hn' : i < M.2.2.1) (hl : (i, Value.int x) :: lvs.filter (fun q => !(q.1 == i) && !(q.1 + 1 == i && q.2.category == 2)) = lvs') (kk : GW M Y fin k n (pc + 1) lvs' st ws) : GW M Y fin k n pc lvs (.int x :: st) ws := by
  intro A p l e s m args below meth c H locs ls C hn K hA P D S L
  exact lv_istore_n C.1 C.2.1 hd hi L hn' hl (fun ls' h => kk A p l e s m args below meth c H locs ls' C hn K hA P D S h)
theorem GW_iinc {i : Nat} {z d : Int} {lvs' : List (Nat × Value)} (pl : Nat) (hd : decode M.2.1 pc = .ok (.iinc i d, 3)) (hx : lvs[pl]? = some (i, .int (Int32.ofInt z))) (hn' : i < M.2.2.1) (hl : (i, Value.int (Int32.ofInt (z + d))) :: lvs.filter (fun q => !(q.1 == i) && !(q.1 + 1 == i && q.2.category == 2)) = lvs') (kk : GW M Y fin k n (pc + 3) lvs' st ws) : GW M Y fin k n pc lvs st ws := by
  intro A p l e s m args below meth c H locs ls C hn K hA P D S L
  exact lv_iinc C.1 C.2.1 hd L hx (Int32.ofInt_add z d).symm hn' hl (fun ls' h => kk A p l e s m args below meth c H locs ls' C hn K hA P D S h)
theorem GW_iconst {z : Int} (hd : decode M.2.1 pc = .ok (.iconst z, 1)) (kk : GW M Y fin k n (pc + 1) lvs (.int (Int32.ofInt z) :: st) ws) : GW M Y fin k n pc lvs st ws := by
  intro A p l e s m args below meth c H locs ls C hn K hA P D S L
  exact lv_iconst C.1 C.2.1 hd rfl (kk A p l e s m args below meth c H locs ls C hn K hA P D S L)
theorem GW_bipush {z : Int} (hd : decode M.2.1 pc = .ok (.bipush z, 2)) (hz : (Int8.ofInt z).toInt32 = Int32.ofInt z) (kk : GW M Y fin k n (pc + 2) lvs (.int (Int32.ofInt z) :: st) ws) : GW M Y fin k n pc lvs st ws := by
  intro A p l e s m args below meth c H locs ls C hn K hA P D S L
  exact lv_bipush C.1 C.2.1 hd hz (kk A p l e s m args below meth c H locs ls C hn K hA P D S L)
theorem GW_sipush {z : Int} (hd : decode M.2.1 pc = .ok (.sipush z, 3)) (hz : (Int16.ofInt z).toInt32 = Int32.ofInt z) (kk : GW M Y fin k n (pc + 3) lvs (.int (Int32.ofInt z) :: st) ws) : GW M Y fin k n pc lvs st ws := by
  intro A p l e s m args below meth c H locs ls C hn K hA P D S L
  exact lv_sipush C.1 C.2.1 hd hz (kk A p l e s m args below meth c H locs ls C hn K hA P D S L)
theorem GW_dup {q : Nat} (hd : decode M.2.1 pc = .ok (.dup, 1)) (kk : GW M Y fin k n (pc + 1) lvs (.ref q :: .ref q :: st) ws) : GW M Y fin k n pc lvs (.ref q :: st) ws := by
  intro A p l e s m args below meth c H locs ls C hn K hA P D S L
  exact lv_dup C.1 C.2.1 hd rfl (kk A p l e s m args below meth c H locs ls C hn K hA P D S L)
theorem GW_iadd {x y : Int} (hd : decode M.2.1 pc = .ok (.iadd, 1)) (kk : GW M Y fin k n (pc + 1) lvs (.int (Int32.ofInt (x + y)) :: st) ws) : GW M Y fin k n pc lvs (.int (Int32.ofInt y) :: .int (Int32.ofInt x) :: st) ws := by
  intro A p l e s m args below meth c H locs ls C hn K hA P D S L
  refine lv_iadd C.1 C.2.1 hd ?_
  rw [← Int32.ofInt_add]
  exact kk A p l e s m args below meth c H locs ls C hn K hA P D S L
theorem GW_imul {x y : Int} (hd : decode M.2.1 pc = .ok (.imul, 1)) (kk : GW M Y fin k n (pc + 1) lvs (.int (Int32.ofInt (x * y)) :: st) ws) : GW M Y fin k n pc lvs (.int (Int32.ofInt y) :: .int (Int32.ofInt x) :: st) ws := by
  intro A p l e s m args below meth c H locs ls C hn K hA P D S L
  refine lv_imul C.1 C.2.1 hd ?_
  rw [← Int32.ofInt_mul]
  exact kk A p l e s m args below meth c H locs ls C hn K hA P D S L
theorem GW_goto {off : Int} {tgt : Nat} (hd : decode M.2.1 pc = .ok (.goto off, 3)) (ht : (pc : Int) + off = (tgt : Int)) (kk : GW M Y fin k n tgt lvs st ws) : GW M Y fin k n pc lvs st ws := by
  intro A p l e s m args below meth c H locs ls C hn K hA P D S L
  exact lv_goto C.1 C.2.1 hd ht (kk A p l e s m args below meth c H locs ls C hn K hA P D S L)
theorem GW_if_ne {x off : Int} (tgt : Nat) (hd : decode M.2.1 pc = .ok (.ifCond .ne off, 3)) (ht : (pc : Int) + off = (tgt : Int)) (hx : -2147483648 ≤ x ∧ x < 2147483648) (kt : x ≠ 0 → GW M Y fin k n tgt lvs st ws) (kf : ¬ (x ≠ 0) → GW M Y fin k n (pc + 3) lvs st ws) : GW M Y fin k n pc lvs (.int (Int32.ofInt x) :: st) ws := by
  intro A p l e s m args below meth c H locs ls C hn K hA P D S L
  exact lv_if_ne C.1 C.2.1 hd ht (fun h => kt (fun h0 => h ((i32_eq hx i32_z).mpr h0)) A p l e s m args below meth c H locs ls C hn K hA P D S L) (fun h => kf (fun h0 => h0 ((i32_eq hx i32_z).mp h)) A p l e s m args below meth c H locs ls C hn K hA P D S L)
theorem GW_icmp_ge {x y off : Int} (tgt : Nat) (hd : decode M.2.1 pc = .ok (.if_icmp .ge off, 3)) (ht : (pc : Int) + off = (tgt : Int)) (hx : -2147483648 ≤ x ∧ x < 2147483648) (hy : -2147483648 ≤ y ∧ y < 2147483648) (kt : y ≤ x → GW M Y fin k n tgt lvs st ws) (kf : ¬ (y ≤ x) → GW M Y fin k n (pc + 3) lvs st ws) : GW M Y fin k n pc lvs (.int (Int32.ofInt y) :: .int (Int32.ofInt x) :: st) ws := by
  intro A p l e s m args below meth c H locs ls C hn K hA P D S L
  exact lv_icmp_ge C.1 C.2.1 hd ht (fun h => kt ((i32_le hy hx).mp h) A p l e s m args below meth c H locs ls C hn K hA P D S L) (fun h => kf (fun h0 => h ((i32_le hy hx).mpr h0)) A p l e s m args below meth c H locs ls C hn K hA P D S L)
theorem GW_obj {idx h0 : Nat} (hd : decode M.2.1 pc = .ok (.invokespecial idx, 3)) (h1 : Cond.methodLink M.1.cls idx objectInit ∈ am_tb) (h2 : Cond.instanceMethod objectInit ∈ am_tb) (h3 : Cond.code objectInit ⟨#[0xb1]⟩ 1 none ∈ am_tb) (hf : 1 ≤ M.2.2.2.2.1.frames) (hlo : 12 ≤ M.2.2.2.2.1.locals) (kk : GW M Y fin k n (pc + 3) lvs [] ws) : GW M Y fin k n pc lvs [.ref h0] ws := by
  intro A p l e s m args below meth c H locs ls C hn K hA P D S L
  have hT := ct_T C
  exact W.objInit C.1 C.2.1 C.2.2.2.2.1 (hT _ h1) (hT _ h2) (hT _ h3) rfl (by rw [C.2.2.2.1]; exact L.1) rfl hd hf (show 2 * 0 + 0 + 12 ≤ _ from hlo) (kk A p l e s m args below meth c H locs ls C hn K hA P D S L)
theorem GW_new {idx ci N : Nat} {Cn : String} {T : u_T} {ty : Nat → FieldType} (fs : List Value) (hd : decode M.2.1 pc = .ok (.new idx, 3)) (hc : am_cl[ci]? = some (Cn, T, N)) (hin : ∀ w ∈ u_ws Cn T N, w ∈ am_tb) (hty : ∀ k, k < N → parseFieldDescriptor (T k).2.2.1 = some (ty k)) (h1 : Cond.classLink M.1.cls idx Cn ∈ am_tb) (h2 : Cond.instantiable Cn N ∈ am_tb) (h3 : Cond.initialized Cn ∈ am_tb) (hfs : ∀ j, j < N → defaultValue (ty j) = vp_V fs j) (hk : k + 1 ≤ M.2.2.2.2.1.cells) (hn' : n + N ≤ M.2.2.2.2.1.slots) (kk : ∀ q, GW M Y fin (k + 1) (n + N) (pc + 3) lvs (.ref q :: st) (ws ++ [(q, .inr (ci, fs))])) : GW M Y fin k n pc lvs st ws := by
  intro A p l e s m args below meth c H locs ls C hn K hA P D S L
  have hT := ct_T C
  exact va_new (ci := ci) (fs := fs) (C := Cn) (T := T) (N := N) C.1 C.2.1 hT hin ty hty C.2.2.2.2.1 (hT _ h1) (hT _ h2) (hT _ h3) K.1 P D S hA hc hfs hk hn' hd (fun q H1 P1 D1 S1 => kk q A p l e s m args below meth c H1 locs ls C hn K hA P1 D1 S1 L)
theorem ct_nat {N : Nat} (h : N < 2147483648) : ¬ Int32.ofInt (N : Int) < 0 ∧ (Int32.ofInt (N : Int)).toNatClampNeg = N := by
  refine ⟨fun h0 => ?_, ?_⟩
  · rw [i32_zero, i32_lt (by omega) i32_z] at h0
    omega
  · rw [i32_clamp (by omega)]
    exact Int.toNat_natCast N
theorem GW_newi {N : Nat} {z : Int} (hd : decode M.2.1 pc = .ok (.newarray .int, 2)) (h1 : Cond.arrayClass .int ∈ am_tb) (hz : z = (N : Int)) (hN : N < 2147483648) (hb : N * componentBytes .int ≤ 536870912) (hk : k + 1 ≤ M.2.2.2.2.1.cells) (hn' : n + N ≤ M.2.2.2.2.1.slots) (kk : ∀ q, GW M Y fin (k + 1) (n + N) (pc + 2) lvs (.ref q :: st) (ws ++ [(q, .inl (Y.2 0, N, .inl (fun _ => Int32.ofInt 0)))])) : GW M Y fin k n pc lvs (.int (Int32.ofInt z) :: st) ws := by
  intro A p l e s m args below meth c H locs ls C hn K hA P D S L
  have hT := ct_T C
  subst hz
  refine va_newa (atype := .int) (ty := .int) (a0 := (N, .inl (fun _ => Int32.ofInt 0))) C.1 C.2.1 (hT _ h1) rfl K.1 P D S hA (fun cA => rfl) (ct_nat hN).1 (ct_nat hN).2 hb hk hn' hd (fun q cA H1 K1 P1 D1 S1 => ?_)
  have r1 : s.vm.findClass ("[" ++ FieldType.int.toString) = some cA := (K1.2 4 (cA, .int) rfl).2
  have r0 : s.vm.findClass ("[" ++ FieldType.int.toString) = some (Y.2 0) := (K.1.2 0 (Y.2 0, .int) rfl).2
  have hcA : cA = Y.2 0 := Option.some.inj (r1.symm.trans r0)
  subst hcA
  exact kk q A p l e s m args below meth c H1 locs ls C hn K hA P1 D1 S1 L
theorem GW_newz {N : Nat} {z : Int} (hd : decode M.2.1 pc = .ok (.newarray .boolean, 2)) (h1 : Cond.arrayClass .boolean ∈ am_tb) (hz : z = (N : Int)) (hN : N < 2147483648) (hb : N * componentBytes .boolean ≤ 536870912) (hk : k + 1 ≤ M.2.2.2.2.1.cells) (hn' : n + N ≤ M.2.2.2.2.1.slots) (kk : ∀ q, GW M Y fin (k + 1) (n + N) (pc + 2) lvs (.ref q :: st) (ws ++ [(q, .inl (Y.2 1, N, .inl (fun _ => Int32.ofInt 0)))])) : GW M Y fin k n pc lvs (.int (Int32.ofInt z) :: st) ws := by
  intro A p l e s m args below meth c H locs ls C hn K hA P D S L
  have hT := ct_T C
  subst hz
  refine va_newa (atype := .boolean) (ty := .boolean) (a0 := (N, .inl (fun _ => Int32.ofInt 0))) C.1 C.2.1 (hT _ h1) rfl K.1 P D S hA (fun cA => rfl) (ct_nat hN).1 (ct_nat hN).2 hb hk hn' hd (fun q cA H1 K1 P1 D1 S1 => ?_)
  have r1 : s.vm.findClass ("[" ++ FieldType.boolean.toString) = some cA := (K1.2 4 (cA, .boolean) rfl).2
  have r0 : s.vm.findClass ("[" ++ FieldType.boolean.toString) = some (Y.2 1) := (K.1.2 1 (Y.2 1, .boolean) rfl).2
  have hcA : cA = Y.2 1 := Option.some.inj (r1.symm.trans r0)
  subst hcA
  exact kk q A p l e s m args below meth c H1 locs ls C hn K hA P1 D1 S1 L
theorem GW_newl {N : Nat} {z : Int} (hd : decode M.2.1 pc = .ok (.newarray .long, 2)) (h1 : Cond.arrayClass .long ∈ am_tb) (hz : z = (N : Int)) (hN : N < 2147483648) (hb : N * componentBytes .long ≤ 536870912) (hk : k + 1 ≤ M.2.2.2.2.1.cells) (hn' : n + N ≤ M.2.2.2.2.1.slots) (kk : ∀ q, GW M Y fin (k + 1) (n + N) (pc + 2) lvs (.ref q :: st) (ws ++ [(q, .inl (Y.2 2, N, .inr (.inl (fun _ => 0))))])) : GW M Y fin k n pc lvs (.int (Int32.ofInt z) :: st) ws := by
  intro A p l e s m args below meth c H locs ls C hn K hA P D S L
  have hT := ct_T C
  subst hz
  refine va_newa (atype := .long) (ty := .long) (a0 := (N, .inr (.inl (fun _ => 0)))) C.1 C.2.1 (hT _ h1) rfl K.1 P D S hA (fun cA => rfl) (ct_nat hN).1 (ct_nat hN).2 hb hk hn' hd (fun q cA H1 K1 P1 D1 S1 => ?_)
  have r1 : s.vm.findClass ("[" ++ FieldType.long.toString) = some cA := (K1.2 4 (cA, .long) rfl).2
  have r0 : s.vm.findClass ("[" ++ FieldType.long.toString) = some (Y.2 2) := (K.1.2 2 (Y.2 2, .long) rfl).2
  have hcA : cA = Y.2 2 := Option.some.inj (r1.symm.trans r0)
  subst hcA
  exact kk q A p l e s m args below meth c H1 locs ls C hn K hA P1 D1 S1 L
theorem GW_newq {idx N : Nat} {z : Int} (hd : decode M.2.1 pc = .ok (.anewarray idx, 3)) (h1 : Cond.classLink M.1.cls idx "BeltArms$State" ∈ am_tb) (hz : z = (N : Int)) (hN : N < 2147483648) (hb : N * 4 ≤ 536870912) (hk : k + 1 ≤ M.2.2.2.2.1.cells) (hn' : n + N ≤ M.2.2.2.2.1.slots) (kk : ∀ q, GW M Y fin (k + 1) (n + N) (pc + 3) lvs (.ref q :: st) (ws ++ [(q, .inl (Y.2 3, N, .inr (.inr (.inr (.inr (fun _ => none))))))])) : GW M Y fin k n pc lvs (.int (Int32.ofInt z) :: st) ws := by
  intro A p l e s m args below meth c H locs ls C hn K hA P D S L
  have hT := ct_T C
  subst hz
  refine va_newq C.1 C.2.1 C.2.2.2.2.1 (hT _ h1) K.2.2.1 K.1 P D S hA (ct_nat hN).1 (ct_nat hN).2 hb hk hn' hd (fun q cA H1 K1 P1 D1 S1 => ?_)
  obtain ⟨kA, comp, -, -, -, r1⟩ := (K1.2 4 (cA, .object "BeltArms$State") rfl).2
  obtain ⟨kB, comp', -, -, -, r0⟩ := (K.1.2 3 (Y.2 3, .object "BeltArms$State") rfl).2
  have hcA : cA = Y.2 3 := Option.some.inj (r1.symm.trans r0)
  subst hcA
  exact kk q A p l e s m args below meth c H1 locs ls C hn K hA P1 D1 S1 L
/-- a final field of the class itself -/
def am_fF (own : String) (idx ci j : Nat) (ty : FieldType) : Prop := ∃ (C : String) (T : u_T) (N : Nat) (ty0 : Nat → FieldType), am_cl[ci]? = some (C, T, N) ∧ j < N ∧ (∀ w ∈ u_ws C T N, w ∈ am_tb) ∧ Cond.fieldLink own idx C (T j).2.1 (T j).2.2.1 ∈ am_tb ∧ (T j).1 = C ∧ (∀ k, k < N → parseFieldDescriptor (T k).2.2.1 = some (ty0 k)) ∧ (∀ a, a < N → ∀ b, b < N → a ≠ b → (T a).2.1 ≠ (T b).2.1) ∧ (T j).2.2.2 = true ∧ (T j).1 = own ∧ parseFieldDescriptor (T j).2.2.1 = some ty
theorem GW_putF {idx ci j a : Nat} {fs : List Value} {ty : FieldType} {v : Value} (q0 : Nat) (hd : decode M.2.1 pc = .ok (.putfield idx, 3)) (hf : am_fF M.1.cls idx ci j ty) (he : ws[q0]? = some (a, .inr (ci, fs))) (hnar : narrow ty v = v) (hfit : fits ty v = true) (hl : j < fs.length) (kk : GW M Y fin k n (pc + 3) lvs st (ws.set q0 (a, .inr (ci, fs.set j v)))) : GW M Y fin k n pc lvs (v :: .ref a :: st) ws := by
  intro A p l e s m args below meth c H locs ls C hn K hA P D S L
  have hT := ct_T C
  obtain ⟨Cn, TT, N, ty0, h1, h2, h3, h4, h5, h6, h7, h8, h9, h10⟩ := hf
  exact va_putF (D := Y.1) C.1 C.2.1 (Ts := am_tb) hT h3 ty0 h6 h7 C.2.2.2.2.1 K.1 P D S q0 he h1 j h2 (hT _ h4) (fun x hx => by rw [h5] at hx; exact hx) h8 hn h9 h10 hnar hfit hl hd (fun H1 locs1 P1 D1 S1 => kk A p l e s m args below meth c H1 locs1 ls C hn K hA P1 D1 S1 L)
theorem GW_put {idx ci j a : Nat} {fs : List Value} {ty : FieldType} {v : Value} (q0 : Nat) (hd : decode M.2.1 pc = .ok (.putfield idx, 3)) (hf : am_fp M.1.cls idx ci j ty) (he : ws[q0]? = some (a, .inr (ci, fs))) (hnar : narrow ty v = v) (hfit : fits ty v = true) (hl : j < fs.length) (kk : GW M Y fin k n (pc + 3) lvs st (ws.set q0 (a, .inr (ci, fs.set j v)))) : GW M Y fin k n pc lvs (v :: .ref a :: st) ws := by
  intro A p l e s m args below meth c H locs ls C hn K hA P D S L
  have hT := ct_T C
  obtain ⟨Cn, TT, N, ty0, h1, h2, h3, h4, h5, h6, h7, h8, h9⟩ := hf
  exact va_put (D := Y.1) C.1 C.2.1 (Ts := am_tb) hT h3 ty0 h6 h7 C.2.2.2.2.1 K.1 P D S q0 he h1 j h2 (hT _ h4) (fun x hx => by rw [h5] at hx; exact hx) h8 h9 hnar hfit hl hd (fun H1 locs1 P1 D1 S1 => kk A p l e s m args below meth c H1 locs1 ls C hn K hA P1 D1 S1 L)
theorem GW_get {idx ci j a : Nat} {fs : List Value} {v : Value} (q0 : Nat) (hd : decode M.2.1 pc = .ok (.getfield idx, 3)) (hf : am_fl M.1.cls idx ci j) (he : ws[q0]? = some (a, .inr (ci, fs))) (hv : fs[j]? = some v) (kk : GW M Y fin k n (pc + 3) lvs (v :: st) ws) : GW M Y fin k n pc lvs (.ref a :: st) ws := by
  intro A p l e s m args below meth c H locs ls C hn K hA P D S L
  have hT := ct_T C
  obtain ⟨Cn, TT, N, h1, h2, h3, h4, h5⟩ := hf
  exact va_get (D := Y.1) C.1 C.2.1 (Ts := am_tb) hT h3 C.2.2.2.2.1 K.1 P q0 he h1 j h2 (hT _ h4) (fun x hx => by rw [h5] at hx; exact hx) hv hd (kk A p l e s m args below meth c H locs ls C hn K hA P D S L)
theorem upd_rup {g : Row} {i : Nat} {x : Int} : upd (fun j => Int32.ofInt (g j)) i (Int32.ofInt x) = fun j => Int32.ofInt (rup g i x j) := by
  funext b
  by_cases h : b = i <;> simp [upd, rup, h]
theorem GW_iast {i N a : Nat} {z x : Int} {g : Row} (q0 : Nat) (hd : decode M.2.1 pc = .ok (.iastore, 1)) (he : ws[q0]? = some (a, .inl (Y.2 0, N, .inl (fun j => Int32.ofInt (g j))))) (hz : z = (i : Int)) (hi : i < N) (hN : N < 2147483648) (kk : GW M Y fin k n (pc + 1) lvs st (ws.set q0 (a, .inl (Y.2 0, N, .inl (fun j => Int32.ofInt (rup g i x j)))))) : GW M Y fin k n pc lvs (.int (Int32.ofInt x) :: .int (Int32.ofInt z) :: .ref a :: st) ws := by
  intro A p l e s m args below meth c H locs ls C hn K hA P D S L
  subst hz
  refine va_iast (D := Y.1) C.1 C.2.1 K.1 P D S q0 0 he rfl (i32_in hN (by omega)) hd (fun H1 locs1 P1 D1 S1 => ?_)
  rw [(ct_nat (by omega)).2, upd_rup] at P1 D1
  exact kk A p l e s m args below meth c H1 locs1 ls C hn K hA P1 D1 S1 L
theorem GW_aast {i N a v : Nat} {z : Int} {f : Nat → Option Nat} {vs : List Value} (q0 qk : Nat) (hd : decode M.2.1 pc = .ok (.aastore, 1)) (he : ws[q0]? = some (a, .inl (Y.2 3, N, .inr (.inr (.inr (.inr f)))))) (hv : ws[qk]? = some (v, .inr (3, vs))) (hz : z = (i : Int)) (hi : i < N) (hN : N < 2147483648) (kk : GW M Y fin k n (pc + 1) lvs st (ws.set q0 (a, .inl (Y.2 3, N, .inr (.inr (.inr (.inr (va_up f i (some v)))))))) ) : GW M Y fin k n pc lvs (.ref v :: .int (Int32.ofInt z) :: .ref a :: st) ws := by
  intro A p l e s m args below meth c H locs ls C hn K hA P D S L
  subst hz
  refine va_astq (D := Y.1) (r := (RX3, TX3, 5)) C.1 C.2.1 K.1 P D S q0 3 qk 3 he rfl hv rfl (i32_in hN (by omega)) hd (fun H1 locs1 P1 D1 S1 => ?_)
  rw [(ct_nat (by omega)).2] at P1 D1
  exact kk A p l e s m args below meth c H1 locs1 ls C hn K hA P1 D1 S1 L
theorem GW_swap {a b d : va_W} (kk : GW M Y fin k n pc lvs st ((a ++ d) ++ b)) : GW M Y fin k n pc lvs st ((a ++ b) ++ d) := by
  intro A p l e s m args below meth c H locs ls C hn K hA P D S L
  exact kk A p l e s m args below meth c H locs ls C hn K hA P.swap D.swap S L
theorem GW_ret (hd : decode M.2.1 pc = .ok (.return_, 1)) (hr : M.2.2.2.1 = none) (hk : k ≤ M.2.2.2.2.2.1) (hn' : n ≤ M.2.2.2.2.2.2) (hfin : fin ws) : GW M Y fin k n pc lvs [] ws := by
  intro A p l e s m args below meth c H locs ls C hn K hA P D S L
  exact W.widen hk hn' (W.vret C.1 C.2.1 (C.2.2.1.trans hr) (fun t ht hW => ⟨⟨ws, rfl, hfin, by rw [ht]; exact P, D⟩, S.F ht⟩) S.2.2 hd C.2.2.2.2.2.2)
theorem GW_eq {ws' : va_W} (h : ws = ws') (kk : GW M Y fin k n pc lvs st ws') : GW M Y fin k n pc lvs st ws := by
  rw [h]
  exact kk
/-- what stays of a call of a constructor -/
theorem ct_back {A : Nat → Prop} {ci q : Nat} {fs : List Value} {u : va_W} {H0 H H1 : Heap} {locs : List Loc} (hA : ∀ x, H0.size ≤ x → A x) (P : va_P Y.1 am_cl (ws ++ [(q, .inr (ci, fs))]) H) (D : va_D A (ws ++ [(q, .inr (ci, fs))])) (S : va_S A H0 H locs) : (∀ x, va_A [(q, .inr (ci, fs))] H.size x → A x) ∧ va_P Y.1 am_cl [(q, .inr (ci, fs))] H ∧ ((∀ x : Nat, x < H.size → ¬ va_A [(q, .inr (ci, fs))] H.size x → H1[x]? = H[x]?) → va_P Y.1 am_cl u H1 → va_D (va_A [(q, .inr (ci, fs))] H.size) u → va_P Y.1 am_cl (ws ++ u) H1 ∧ va_D A (ws ++ u)) := by
  have hq : (ws ++ [(q, (.inr (ci, fs) : va_E))])[ws.length]? = some (q, .inr (ci, fs)) := by
    rw [List.getElem?_append_right (Nat.le_refl _), Nat.sub_self]
    rfl
  have hl : ∀ {i : Nat} {x : Nat × va_E}, ws[i]? = some x → (ws ++ [(q, (.inr (ci, fs) : va_E))])[i]? = some x := fun {i x} hx => by
    rw [List.getElem?_append_left (List.getElem?_eq_some_iff.mp hx).1]
    exact hx
  have hAq : ∀ x, va_A [(q, (.inr (ci, fs) : va_E))] H.size x → x = q ∨ H.size ≤ x := by
    intro x hx
    rcases hx with ⟨k, e, he⟩ | h
    · have h1 : k < 1 := (List.getElem?_eq_some_iff.mp he).1
      rw [show k = 0 by omega] at he
      cases he
      exact Or.inl rfl
    · exact Or.inr h
  have hF : ∀ x, va_A [(q, (.inr (ci, fs) : va_E))] H.size x → A x := fun x hx => by
    rcases hAq x hx with rfl | h
    · exact D.2 _ _ hq
    · exact hA x (Nat.le_trans S.1 h)
  have hout : ∀ {i : Nat} {x : Nat × va_E}, ws[i]? = some x → ¬ va_A [(q, (.inr (ci, fs) : va_E))] H.size x.1 := fun {i x} hx hAx => by
    rcases hAq _ hAx with h | h
    · have := D.1 i ws.length x (q, .inr (ci, fs)) (hl hx) hq h
      have := (List.getElem?_eq_some_iff.mp hx).1
      omega
    · exact absurd (P i x (hl hx)).lt (Nat.not_lt.mpr h)
  refine ⟨hF, fun i x hx => ?_, fun hk1 P1 D1 => ⟨?_, ?_⟩⟩
  · have h1 : i < 1 := (List.getElem?_eq_some_iff.mp hx).1
    rw [show i = 0 by omega] at hx
    cases hx
    exact P _ _ hq
  · exact (va_P.kept (fun i x hx => P i x (hl hx)) (fun i x hx => hk1 x.1 (P i x (hl hx)).lt (hout hx))).app P1
  · exact va_D.app ⟨fun i j x y hx hy e => D.1 i j x y (hl hx) (hl hy) e, fun i x hx => D.2 i x (hl hx)⟩ (D1.weaken (fun _ _ _ h => hF _ h)) (fun i j x y hx hy e => hout hx (by rw [e]; exact D1.2 j y hy))
def ct_fit (M y : am_M) (k n : Nat) : Prop := y.2.2.2.2.1.cells = y.2.2.2.2.2.1 ∧ y.2.2.2.2.1.slots = y.2.2.2.2.2.2 ∧ y.2.2.2.2.1.frames + 1 ≤ M.2.2.2.2.1.frames ∧ 8 + (y.2.2.1 + 11) + y.2.2.2.2.1.locals ≤ M.2.2.2.2.1.locals ∧ k + y.2.2.2.2.2.1 ≤ M.2.2.2.2.1.cells ∧ n + y.2.2.2.2.2.2 ≤ M.2.2.2.2.1.slots
/-- what is asked of a constructor that is called, but the link -/
def ct_cl (y : am_M) : Prop := Cond.code y.1 y.2.1 y.2.2.1 y.2.2.2.1 ∈ am_tb ∧ Cond.initialized y.1.cls ∈ am_tb ∧ Cond.instanceMethod y.1 ∈ am_tb ∧ (y.1.cls ≠ "java/lang/invoke/MethodHandle" ∧ y.1.cls ≠ "java/lang/invoke/VarHandle") ∧ (parseMethodDescriptor y.1.desc).map (fun d => d.parameters.length) = some 0 ∧ y.1.name = "<init>" ∧ y.2.2.2.1 = none
theorem GW_init {y : am_M} {idx ci q : Nat} {fs : List Value} {T : List am_C} {P0 : am_S → Prop} {host : String} (hd : decode M.2.1 pc = .ok (.invokespecial idx, 3)) (hl : Cond.methodLink M.1.cls idx y.1 ∈ am_tb ∨ ∀ U, ct_N U → va_Nw (.methodLinkNest M.1.cls idx y.1 host) U) (hcl : ct_cl y) (hfit : ct_fit M y k n) (h4 : (st.map fun v => v.category).sum ≤ 8) (hc : Ctor y ci fs T P0) (kk : ∀ (f : Nat → Nat) (σ : am_S), f 0 = q → P0 σ → GW M Y fin (k + y.2.2.2.2.2.1) (n + y.2.2.2.2.2.2) (pc + 3) lvs st (ws ++ am_ws T (f, Y) σ)) : GW M Y fin k n pc lvs (.ref q :: st) (ws ++ [(q, .inr (ci, fs))]) := by
  intro A p l e s m args below meth c H locs ls C hn K hA P D S L
  have hT := ct_T C
  have hts := C.2.2.2.2.2.1
  obtain ⟨k1, k2, k3, k4, k5, k6, k7⟩ := hcl
  obtain ⟨f1, f2, f3, f4, f5, f6⟩ := hfit
  obtain ⟨hF, hP1, -⟩ := ct_back (u := []) (H1 := H) hA P D S
  have hp : PreS s H (ct_P Y q H.size ci fs) [.ref q] := ⟨fun a U g mk h => ⟨h.1, h.2.1, h.2.2.1, ct_K.call h.2.2.2⟩, fun U hU hW => ⟨rfl, by rw [hU], by rw [hU]; exact hP1, ct_K.moved hW K⟩⟩
  have hlen : ∀ sig, parseMethodDescriptor y.1.desc = some sig → 0 = sig.parameters.length := fun sig h => by rw [h] at k5; exact (Option.some.inj k5).symm
  have hcw : ∀ w ∈ am_wd y, ∀ (a' : Array Value) (U : State), s.WarmedH U.vm → w.before a' U = true := am_words hts k1
  have k1' : Cond.code y.1 y.2.1 y.2.2.1 none ∈ am_tb := by rw [← k7]; exact k1
  have hmem : Cond.code y.1 y.2.1 y.2.2.1 none ∈ am_wd y := by rw [← k7]; exact List.mem_cons_self
  have hrun : va_Run p l e M.2.2.2.2.1 s m args below meth c H locs k n y.2.2.2.2.2.1 y.2.2.2.2.2.2 (F0 m pc ls (.ref q :: st)) st (ct_Q Y (ct_F Y q T P0) (va_A [(q, .inr (ci, fs))] H.size) (Value.ref q :: []).toArray) (va_A [(q, .inr (ci, fs))] H.size) := by
    rcases hl with h | h
    · exact va_runI (As := []) (rest := st) (b := q) (g := F0 m pc ls (.ref q :: st)) ⟨C.1, C.2.1, C.2.2.2.1, C.2.2.2.2.1, hts⟩ (hc l Y q H.size) ⟨⟨f1, f2, f3, f4, hcw, hmem, hT _ k1', hT _ k2, k4, hlen, hT _ h⟩, k6, hT _ k3⟩ hp rfl rfl L.1 rfl (lv_room h4) hd ⟨f5, f6⟩
    · exact va_runIN (As := []) (rest := st) (b := q) (host := host) (g := F0 m pc ls (.ref q :: st)) ⟨C.1, C.2.1, C.2.2.2.1, C.2.2.2.2.1, hts⟩ (hc l Y q H.size) ⟨⟨⟨f1, f2, f3, f4, hcw, hmem⟩, hT _ k1', hT _ k2, k4, hlen, va_Nw.use rfl (h s K.2)⟩, k6, hT _ k3⟩ hp rfl rfl L.1 rfl (lv_room h4) hd ⟨f5, f6⟩
  refine va_callv hrun S (fun x _ h => hF x h) hF (fun u t H1 locs1 ht hvm hw hB hz1 hk1 hS => ?_)
  obtain ⟨f, σ, hf0, rfl, hσ⟩ := hw
  rw [ht] at hB
  obtain ⟨-, -, hj⟩ := ct_back (u := am_ws T (f, Y) σ) (H1 := H1) hA P D S
  obtain ⟨P2, D2⟩ := hj hk1 hB.1 hB.2
  exact kk f σ hf0 hσ A p l e s m args below meth c H1 locs1 ls C hn K hA P2 D2 hS L
/-- a call of a method that the small machine has a contract of; the cells are just those of the table -/
theorem GW_callV {y : am_M} {idx b ci : Nat} {T : List am_C} {fs : List (Option Nat)} {f : Nat → Nat} {σ : am_S} {P0 : am_S → Prop} (hd : decode M.2.1 pc = .ok (.invokevirtual idx, 3)) (hk : am_lv' M.1.cls idx y 0) (hy : y.2.2.2.2.1.cells = 0 ∧ y.2.2.2.2.1.slots = 0 ∧ y.2.2.2.2.2 = (0, 0)) (hfit : ct_fit M y k n) (ht : T[b]? = some (.inl (ci, fs))) (hc : (am_cl[ci]?).map (fun q => q.1) = some y.1.cls) (hR : Runs T y [vR b] σ (QV P0)) (kk : ∀ σ', P0 σ' → GW M Y fin k n (pc + 3) lvs [] (am_ws T (f, Y) σ')) : GW M Y fin k n pc lvs [.ref (f b)] (am_ws T (f, Y) σ) := by
  intro A p l e s m args below meth c H locs ls C hn K hA P D S L
  have hT := ct_T C
  have hts := C.2.2.2.2.2.1
  obtain ⟨⟨k1, k2, k3, k4, k5⟩, k6, k7⟩ := hk
  obtain ⟨g1, g2, g3⟩ := hy
  obtain ⟨f1, f2, f3, f4, f5, f6⟩ := hfit
  obtain ⟨qc, hqc, hqn⟩ : ∃ qc, am_cl[ci]? = some qc ∧ qc.1 = y.1.cls := by
    cases h : am_cl[ci]? with
    | none => rw [h] at hc; cases hc
    | some q => rw [h] at hc; exact ⟨q, rfl, Option.some.inj hc⟩
  have hDA : va_D (am_A T (f, Y)) (am_ws T (f, Y) σ) := ⟨D.1, fun i x hx => by
    have h1 : i < (am_ws T (f, Y) σ).length := (List.getElem?_eq_some_iff.mp hx).1
    unfold am_ws at h1 hx
    rw [List.length_mapIdx] at h1
    rw [List.getElem?_mapIdx, List.getElem?_eq_getElem h1] at hx
    cases hx
    exact ⟨i, h1, rfl⟩⟩
  have hsub : ∀ x, am_A T (f, Y) x → A x := fun x hx => by
    obtain ⟨i, hi, rfl⟩ := hx
    exact D.2 i _ (am_ws_get (List.getElem?_eq_getElem hi))
  have G : am_G T (f, Y) σ s H := ⟨P, K.1, hDA, K.2.1⟩
  have hrun := va_runV (p := p) (l := l) (e := e) (R := M.2.2.2.2.1) (s := s) (m := m) (args := args) (below := below) (meth := meth) (c := c) (H := H) (locs := locs) (cells := k) (slots := n) (As := []) (rest := []) (b := f b) (C := y.1.cls) (g := F0 m pc ls [.ref (f b)]) (n := 0)
    ⟨C.1, C.2.1, C.2.2.2.1, C.2.2.2.2.1, hts⟩ (hR l (f, Y)) ⟨⟨f1, f2, f3, f4, am_words hts k2, List.mem_cons_self, hT _ k2, hT _ k3, k4, fun sig h => by rw [h] at k5; exact (Option.some.inj k5).symm, hT _ k1⟩, hT _ k6, hT _ k7⟩
    ⟨am_blind, by obtain ⟨cell, x1, x2, x3⟩ := va_recv G.2.1 G.1 hqc (am_ws_get ht); exact ⟨cell, x1, x2, by rw [← hqn]; exact x3⟩, fun U hU hW => ⟨rfl, by rw [hU]; exact am_G.moved hW G⟩⟩ rfl rfl L.1 rfl (lv_room (by simp)) hd ⟨f5, f6⟩
  rw [g3] at hrun
  intro U hU X
  obtain ⟨v, st₀, t, T', L', h0, X', hL, e1, e2, ⟨⟨r, σ', hv, ⟨hr, hq⟩, hG⟩, hz, hk⟩, go⟩ := hrun U hU X
  subst hr
  have hv' : v = none := by injection hv
  subst hv'
  have hS : va_S A s.heap T'.heap (locs ++ L') := by
    refine ⟨Nat.le_trans S.1 (by rw [e1, ← h0]; exact hz), fun q h1 h2 => ?_, fun q hq => ?_⟩
    · rw [e1, hk q (by rw [h0]; exact Nat.lt_of_lt_of_le h1 S.1) (fun z => h2 (hsub _ z)), h0]
      exact S.2.1 q h1 h2
    · rcases List.mem_append.mp hq with h | h
      · exact S.2.2 q h
      · exact hsub _ (hL q h)
  obtain ⟨t2, a1, b1⟩ := kk σ' hq A p l e s m args below meth c T'.heap (locs ++ L') ls C hn K hA (by rw [e1]; exact hG.1) ⟨hG.2.2.1.1, fun i x hx => hsub _ (hG.2.2.1.2 i x hx)⟩ hS L T' rfl X'
  exact ⟨t2, go t2 a1, b1⟩
end GWK
