/-! THE CLAIM OUT OF ONE WALK OF THE LAW'S BODY. Your part is whole_start (and what it stands on); all else here is the same for every law, but numbers. -/
def R_law : String := "BeltArmsLaw"
def lw_P (b : Addr) (xs : List Int32) (args : Array Value) (s : State) : Prop := args = #[.ref b] ∧ s.IntsAt b xs ∧ xs.length ≤ 2560 ∧ (Jvm.Cond.and given_1 narrow_1).before args s = true
def lw_Q (_ : Array Value) (s : State) (o : Outcome) (t : State) : Prop := o = .returned (some (.int 1)) ∧ Framed s o t [] 86 34414
def lw_Z (below : List Frame) (a : Array Value) (s : State) : State → Prop := fun t => ∃ o, t.status = .running ∧ Ended t below o ∧ lw_Q a s o t
/-- the law's own end, with 1 on the stack, nothing written that was there before, its room as the claim has it -/
theorem lw_ret {p : Program} {l : Launch} {e : Env} {s : State} {m : MethodId} {below : List Frame} {meth : Method} {c : Code} {b : Nat} (hx : p.tables.exec = Jvm.exec) (hb : c.code = code) (hr : meth.sig.returnType = ret) (hlocks : meth.locks = false) {pc : Nat} {H : Heap} {ls : Array Slot} (hdg : decode code pc = .ok (.ireturn, 1)) : W p l e room_1 s m #[Value.ref b] below meth c H [] 86 34414 (lw_Z below #[Value.ref b] s) (F0 m pc ls [.int 1]) := by
  intro T hT X
  obtain ⟨fs, hret, hrun, hended, hW, hframe⟩ := X.leave (v := some (.int 1)) (hlocks := hlocks) (fun h => by rw [hr] at h; cases h)
  have hmeth' : T.vm.method? m = some meth := X.method'
  refine ⟨T.setFrames fs, ?_, .returned (some (.int 1)), hrun, hended, rfl, ⟨_, rfl⟩, hW, hframe⟩
  jvm_step X.here [X.here.top, hx, hb, hdg, hmeth', hr, ret, narrow_b1]
  (try refine ⟨rfl, ?_⟩); (try refine ⟨rfl, ?_⟩)
  first | (intro acts; rw [hret _ acts rfl rfl rfl]) | rw [hret _ _ rfl rfl rfl]
  exact Steps.refl _
/-- what holds at the law's entry: the machine, the code, the tables' words (any of lw_tbl by 'hts w (by decide +kernel)'), the script of L ints xs at the cell b, what the Statement gives of the start (any of its parts by flat_of_before) -/
def lw_At (p : Program) (s : State) (m : MethodId) (meth : Method) (c : Code) (b L : Nat) (xs : Nat → Int32) : Prop :=
  p.tables.exec = Jvm.exec ∧ c.code = code ∧ meth.sig.returnType = ret ∧ c.maxLocals = 4 ∧ s.vm.findClass R_law = some m.cls ∧ (∀ w ∈ lw_tbl, w.before #[Value.ref b] s = true) ∧ va_X b L xs s s.heap ∧ b < s.heap.size ∧ meth.locks = false ∧ (Jvm.Cond.and given_1 narrow_1).before #[Value.ref b] s = true
-- ===== the law's walk: rows =====
def LW (b L : Nat) (xs : Nat → Int32) (pc : Nat) (i : Int) (st : List am_V) (σ : am_S) : Prop :=
  ∀ (E : am_E) (p : Program) (l : Launch) (e : Env) (s : State) (m : MethodId) (below : List Frame) (meth : Method) (c : Code) (H : Heap) (locs : List Loc) (ls : Array Slot), lw_At p s m meth c b L xs → am_G am_tab E σ s H → (∀ k, k < 86 → s.heap.size ≤ E.1 k) → va_S (am_A am_tab E) s.heap H locs → lv_has ls 4 [(3, .int (Int32.ofInt i)), (2, .ref (E.1 70)), (1, .ref (E.1 0)), (0, .ref b)] →
    W p l e room_1 s m #[Value.ref b] below meth c H locs 86 34414 (lw_Z below #[Value.ref b] s) (F0 m pc ls (st.map (am_tr E)))
theorem lw_out {E : am_E} {s : State} {b : Nat} (h : ∀ k, k < 86 → s.heap.size ≤ E.1 k) (hb : b < s.heap.size) : ¬ am_A am_tab E b := by
  intro ⟨k, hk, e⟩
  have := h k hk
  omega
theorem lw_T {p : Program} {s : State} {m : MethodId} {meth : Method} {c : Code} {b L : Nat} {xs : Nat → Int32} (C : lw_At p s m meth c b L xs) : ∀ w ∈ am_tb, w.before #[Value.ref b] s = true := fun w hw => C.2.2.2.2.2.1 w (List.mem_filter.mp hw).1
section LWK
variable {b L : Nat} {xs : Nat → Int32} {pc : Nat} {i : Int} {st : List am_V} {σ : am_S}
theorem LW_x (hd : decode code pc = .ok (.aload_n 1, 1)) (kk : LW b L xs (pc + 1) i (vR 0 :: st) σ) : LW b L xs pc i st σ := by
  intro E p l e s m below meth c H locs ls C G hE S V
  exact lv_aload_n C.1 C.2.1 hd rfl (lv_at V 2 rfl) (kk E p l e s m below meth c H locs ls C G hE S V)
theorem LW_m (hd : decode code pc = .ok (.aload_n 2, 1)) (kk : LW b L xs (pc + 1) i (vR 70 :: st) σ) : LW b L xs pc i st σ := by
  intro E p l e s m below meth c H locs ls C G hE S V
  exact lv_aload_n C.1 C.2.1 hd rfl (lv_at V 1 rfl) (kk E p l e s m below meth c H locs ls C G hE S V)
theorem LW_arg {i : Nat} {z : Int} (k : Nat) (hL : L ≤ 2560) (hj : i + k < L) (h0 : decode code pc = .ok (.aload_n 0, 1)) (h1 : decode code (pc + 1) = .ok (.iload_n 3, 1)) (h2 : decode code (pc + 1 + 1) = .ok (.iconst z, 1)) (h3 : decode code (pc + 1 + 1 + 1) = .ok (.iadd, 1)) (h4 : decode code (pc + 1 + 1 + 1 + 1) = .ok (.iaload, 1)) (hz : z = (k : Int)) (kk : LW b L xs (pc + 1 + 1 + 1 + 1 + 1) i (vI (xs (i + k)).toInt :: st) σ) : LW b L xs pc i st σ := by
  intro E p l e s m below meth c H locs ls C G hE S V
  subst hz
  have hcl : (Int32.ofInt ((i + k : Nat) : Int)).toNatClampNeg = i + k := (ct_nat (by omega)).2
  have hin : vp_in (Int32.ofInt ((i + k : Nat) : Int)) L := i32_in (by omega) (by omega)
  refine lv_aload_n C.1 C.2.1 h0 rfl (lv_at V 3 rfl) ?_
  refine lv_iload_n C.1 C.2.1 h1 rfl (lv_at V 0 rfl) ?_
  refine lv_iconst C.1 C.2.1 h2 rfl ?_
  refine lv_iadd C.1 C.2.1 h3 ?_
  rw [← Int32.ofInt_add, ← Int.natCast_add]
  refine va_sld C.1 C.2.1 C.2.2.2.2.2.2.1 C.2.2.2.2.2.2.2.1 (lw_out hE C.2.2.2.2.2.2.2.1) S hin h4 ?_
  rw [hcl]
  have hv : Value.int (xs (i + k)) = am_tr E (vI (xs (i + k)).toInt) := by
    show Value.int (xs (i + k)) = Value.int (Int32.ofInt (xs (i + k)).toInt)
    rw [Int32.ofInt_toInt]
  rw [hv]
  exact kk E p l e s m below meth c H locs ls C G hE S V
theorem LW_call {y : am_M} {idx n b0 ci : Nat} {fs : List (Option Nat)} {P : Int → am_S → Prop} (av rest : List am_V) (hd : decode code pc = .ok (.invokevirtual idx, 3)) (hk : am_lv' RL idx y n) (hfit : y.2.2.2.2.1.cells = 0 ∧ y.2.2.2.2.1.slots = 0 ∧ y.2.2.2.2.2 = (0, 0) ∧ y.2.2.2.2.1.frames + 1 ≤ 10 ∧ 8 + (y.2.2.1 + 11) + y.2.2.2.2.1.locals ≤ 370) (ht : am_tab[b0]? = some (.inl (ci, fs))) (hc : (am_cl[ci]?).map (fun q => q.1) = some y.1.cls) (hn : av.length = n) (h4 : rest.length ≤ 4) (hR : Runs am_tab y (vR b0 :: av) σ (QI P)) (kk : ∀ z σ', P z σ' → LW b L xs (pc + 3) i (vI z :: rest) σ') : LW b L xs pc i (av.reverse ++ vR b0 :: rest) σ := by
  intro E p l e s m below meth c H locs ls C G hE S V
  obtain ⟨⟨k1, k2, k3, k4, k5⟩, k6, k7⟩ := hk
  obtain ⟨f1, f2, f3, f4, f5⟩ := hfit
  have hT := lw_T C
  obtain ⟨qc, hqc, hqn⟩ : ∃ qc, am_cl[ci]? = some qc ∧ qc.1 = y.1.cls := by
    cases h : am_cl[ci]? with
    | none => rw [h] at hc; cases hc
    | some q => rw [h] at hc; exact ⟨q, rfl, Option.some.inj hc⟩
  have hwd : ∀ w ∈ am_wd y, ∀ (a' : Array Value) (U : State), s.WarmedH U.vm → w.before a' U = true := by
    intro w hw a' U hW
    have hm : w ∈ am_tb := by
      rcases List.mem_cons.mp hw with rfl | h
      · exact k2
      · exact h
    exact word_at hW (lw_good w hm) (hT w hm)
  have hrun := va_runV (p := p) (l := l) (e := e) (R := room_1) (s := s) (m := m) (args := #[Value.ref b]) (below := below) (meth := meth) (c := c) (H := H) (locs := locs) (cells := 86) (slots := 34414) (As := av.map (am_tr E)) (rest := rest.map (am_tr E)) (b := E.1 b0) (C := y.1.cls) (g := F0 m pc ls ((av.reverse ++ vR b0 :: rest).map (am_tr E))) (n := n) (own := RL)
    ⟨C.1, C.2.1, C.2.2.2.1, C.2.2.2.2.1, C.2.2.2.2.2.1⟩ (hR l E) ⟨⟨by rw [f1, f3], by rw [f2, f3], f4, f5, hwd, List.mem_cons_self, hT _ k2, hT _ k3, k4, fun sig h => by rw [h] at k5; exact (Option.some.inj k5).symm, hT _ k1⟩, hT _ k6, hT _ k7⟩
    ⟨am_blind, by obtain ⟨cell, x1, x2, x3⟩ := va_recv G.2.1 G.1 hqc (am_ws_get ht); exact ⟨cell, x1, x2, by rw [← hqn]; exact x3⟩, fun U hU hW => ⟨rfl, by rw [hU]; exact am_G.moved hW G⟩⟩ rfl (by rw [List.length_map]; exact hn) V.1 (by simp [am_tr, List.map_reverse]) (by simpa using (lv_room (m := m) (pc := pc) (ls := ls) (rest := []) (am_cats (E := E) rest h4))) hd (by rw [f3]; exact ⟨Nat.le_refl 86, Nat.le_refl 34414⟩)
  rw [f3] at hrun
  refine AW_ofRun (y := y) (rest := rest) hrun G S (fun r σ' H1 locs1 hq G1 S1 => ?_)
  obtain ⟨z, rfl, hp⟩ := hq
  exact kk z σ' hp E p l e s m below meth c H1 locs1 ls C G1 hE S1 V
theorem LW_eq {z z' off : Int} (tgt : Nat) (hd : decode code pc = .ok (.if_icmp .eq off, 3)) (ht : (pc : Int) + off = (tgt : Int)) (h : z' = z) (kk : LW b L xs tgt i [] σ) : LW b L xs pc i [vI z', vI z] σ := by
  intro E p l e s m below meth c H locs ls C G hE S V
  exact lv_icmp_eq C.1 C.2.1 hd ht (fun _ => kk E p l e s m below meth c H locs ls C G hE S V) (fun h0 => absurd (by rw [h]) h0)
end LWK
