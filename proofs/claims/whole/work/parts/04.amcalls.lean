section AMK2
variable {T : List am_C} {M : am_M} {pc : Nat} {lv : List (Option am_V)} {σ : am_S} {Q : Option am_V → am_S → Prop} {y : am_M} {idx b ci : Nat} {fs : List (Option Nat)} {rest : List am_V}
theorem AW_cVI0 {P : Int → am_S → Prop} (hd : decode M.2.1 pc = .ok (.invokevirtual idx, 3)) (hk : am_lv' M.1.cls idx y 0) (hfit : am_fit M y) (ht : T[b]? = some (.inl (ci, fs))) (hc : (am_cl[ci]?).map (fun q => q.1) = some y.1.cls) (h4 : rest.length ≤ 4) (hR : Runs T y [vR b] σ (QI P)) (kk : ∀ z σ', P z σ' → AW T M (pc + 3) lv (vI z :: rest) σ' Q) : AW T M pc lv (vR b :: rest) σ Q :=
  AW_callV (av := []) hd hk hfit ht hc rfl h4 hR (fun r σ' h => by obtain ⟨z, rfl, hp⟩ := h; exact kk z σ' hp)
theorem AW_cVV0 {P : am_S → Prop} (hd : decode M.2.1 pc = .ok (.invokevirtual idx, 3)) (hk : am_lv' M.1.cls idx y 0) (hfit : am_fit M y) (ht : T[b]? = some (.inl (ci, fs))) (hc : (am_cl[ci]?).map (fun q => q.1) = some y.1.cls) (h4 : rest.length ≤ 4) (hR : Runs T y [vR b] σ (QV P)) (kk : ∀ σ', P σ' → AW T M (pc + 3) lv rest σ' Q) : AW T M pc lv (vR b :: rest) σ Q :=
  AW_callV (av := []) hd hk hfit ht hc rfl h4 hR (fun r σ' h => by obtain ⟨rfl, hp⟩ := h; exact kk σ' hp)
theorem AW_cVR0 {P : Nat → am_S → Prop} (hd : decode M.2.1 pc = .ok (.invokevirtual idx, 3)) (hk : am_lv' M.1.cls idx y 0) (hfit : am_fit M y) (ht : T[b]? = some (.inl (ci, fs))) (hc : (am_cl[ci]?).map (fun q => q.1) = some y.1.cls) (h4 : rest.length ≤ 4) (hR : Runs T y [vR b] σ (QR P)) (kk : ∀ z σ', P z σ' → AW T M (pc + 3) lv (vR z :: rest) σ' Q) : AW T M pc lv (vR b :: rest) σ Q :=
  AW_callV (av := []) hd hk hfit ht hc rfl h4 hR (fun r σ' h => by obtain ⟨z, rfl, hp⟩ := h; exact kk z σ' hp)
theorem AW_cVI1 {a1 : am_V} {P : Int → am_S → Prop} (hd : decode M.2.1 pc = .ok (.invokevirtual idx, 3)) (hk : am_lv' M.1.cls idx y 1) (hfit : am_fit M y) (ht : T[b]? = some (.inl (ci, fs))) (hc : (am_cl[ci]?).map (fun q => q.1) = some y.1.cls) (h4 : rest.length ≤ 4) (hR : Runs T y [vR b, a1] σ (QI P)) (kk : ∀ z σ', P z σ' → AW T M (pc + 3) lv (vI z :: rest) σ' Q) : AW T M pc lv (a1 :: vR b :: rest) σ Q :=
  AW_callV (av := [a1]) hd hk hfit ht hc rfl h4 hR (fun r σ' h => by obtain ⟨z, rfl, hp⟩ := h; exact kk z σ' hp)
theorem AW_cSI1 {a1 : am_V} {P : Int → am_S → Prop} (hd : decode M.2.1 pc = .ok (.invokestatic idx, 3)) (hk : am_ls M.1.cls idx y 1) (hfit : am_fit M y) (h4 : rest.length ≤ 4) (hR : Runs T y [a1] σ (QI P)) (kk : ∀ z σ', P z σ' → AW T M (pc + 3) lv (vI z :: rest) σ' Q) : AW T M pc lv (a1 :: rest) σ Q :=
  AW_callS (av := [a1]) hd hk hfit rfl h4 hR (fun r σ' h => by obtain ⟨z, rfl, hp⟩ := h; exact kk z σ' hp)
theorem AW_cVV1 {a1 : am_V} {P : am_S → Prop} (hd : decode M.2.1 pc = .ok (.invokevirtual idx, 3)) (hk : am_lv' M.1.cls idx y 1) (hfit : am_fit M y) (ht : T[b]? = some (.inl (ci, fs))) (hc : (am_cl[ci]?).map (fun q => q.1) = some y.1.cls) (h4 : rest.length ≤ 4) (hR : Runs T y [vR b, a1] σ (QV P)) (kk : ∀ σ', P σ' → AW T M (pc + 3) lv rest σ' Q) : AW T M pc lv (a1 :: vR b :: rest) σ Q :=
  AW_callV (av := [a1]) hd hk hfit ht hc rfl h4 hR (fun r σ' h => by obtain ⟨rfl, hp⟩ := h; exact kk σ' hp)
theorem AW_cSV1 {a1 : am_V} {P : am_S → Prop} (hd : decode M.2.1 pc = .ok (.invokestatic idx, 3)) (hk : am_ls M.1.cls idx y 1) (hfit : am_fit M y) (h4 : rest.length ≤ 4) (hR : Runs T y [a1] σ (QV P)) (kk : ∀ σ', P σ' → AW T M (pc + 3) lv rest σ' Q) : AW T M pc lv (a1 :: rest) σ Q :=
  AW_callS (av := [a1]) hd hk hfit rfl h4 hR (fun r σ' h => by obtain ⟨rfl, hp⟩ := h; exact kk σ' hp)
theorem AW_cVI2 {a1 a2 : am_V} {P : Int → am_S → Prop} (hd : decode M.2.1 pc = .ok (.invokevirtual idx, 3)) (hk : am_lv' M.1.cls idx y 2) (hfit : am_fit M y) (ht : T[b]? = some (.inl (ci, fs))) (hc : (am_cl[ci]?).map (fun q => q.1) = some y.1.cls) (h4 : rest.length ≤ 4) (hR : Runs T y [vR b, a1, a2] σ (QI P)) (kk : ∀ z σ', P z σ' → AW T M (pc + 3) lv (vI z :: rest) σ' Q) : AW T M pc lv (a2 :: a1 :: vR b :: rest) σ Q :=
  AW_callV (av := [a1, a2]) hd hk hfit ht hc rfl h4 hR (fun r σ' h => by obtain ⟨z, rfl, hp⟩ := h; exact kk z σ' hp)
theorem AW_cSI2 {a1 a2 : am_V} {P : Int → am_S → Prop} (hd : decode M.2.1 pc = .ok (.invokestatic idx, 3)) (hk : am_ls M.1.cls idx y 2) (hfit : am_fit M y) (h4 : rest.length ≤ 4) (hR : Runs T y [a1, a2] σ (QI P)) (kk : ∀ z σ', P z σ' → AW T M (pc + 3) lv (vI z :: rest) σ' Q) : AW T M pc lv (a2 :: a1 :: rest) σ Q :=
  AW_callS (av := [a1, a2]) hd hk hfit rfl h4 hR (fun r σ' h => by obtain ⟨z, rfl, hp⟩ := h; exact kk z σ' hp)
theorem AW_cVV2 {a1 a2 : am_V} {P : am_S → Prop} (hd : decode M.2.1 pc = .ok (.invokevirtual idx, 3)) (hk : am_lv' M.1.cls idx y 2) (hfit : am_fit M y) (ht : T[b]? = some (.inl (ci, fs))) (hc : (am_cl[ci]?).map (fun q => q.1) = some y.1.cls) (h4 : rest.length ≤ 4) (hR : Runs T y [vR b, a1, a2] σ (QV P)) (kk : ∀ σ', P σ' → AW T M (pc + 3) lv rest σ' Q) : AW T M pc lv (a2 :: a1 :: vR b :: rest) σ Q :=
  AW_callV (av := [a1, a2]) hd hk hfit ht hc rfl h4 hR (fun r σ' h => by obtain ⟨rfl, hp⟩ := h; exact kk σ' hp)
theorem AW_cSV2 {a1 a2 : am_V} {P : am_S → Prop} (hd : decode M.2.1 pc = .ok (.invokestatic idx, 3)) (hk : am_ls M.1.cls idx y 2) (hfit : am_fit M y) (h4 : rest.length ≤ 4) (hR : Runs T y [a1, a2] σ (QV P)) (kk : ∀ σ', P σ' → AW T M (pc + 3) lv rest σ' Q) : AW T M pc lv (a2 :: a1 :: rest) σ Q :=
  AW_callS (av := [a1, a2]) hd hk hfit rfl h4 hR (fun r σ' h => by obtain ⟨rfl, hp⟩ := h; exact kk σ' hp)
theorem AW_cVI3 {a1 a2 a3 : am_V} {P : Int → am_S → Prop} (hd : decode M.2.1 pc = .ok (.invokevirtual idx, 3)) (hk : am_lv' M.1.cls idx y 3) (hfit : am_fit M y) (ht : T[b]? = some (.inl (ci, fs))) (hc : (am_cl[ci]?).map (fun q => q.1) = some y.1.cls) (h4 : rest.length ≤ 4) (hR : Runs T y [vR b, a1, a2, a3] σ (QI P)) (kk : ∀ z σ', P z σ' → AW T M (pc + 3) lv (vI z :: rest) σ' Q) : AW T M pc lv (a3 :: a2 :: a1 :: vR b :: rest) σ Q :=
  AW_callV (av := [a1, a2, a3]) hd hk hfit ht hc rfl h4 hR (fun r σ' h => by obtain ⟨z, rfl, hp⟩ := h; exact kk z σ' hp)
theorem AW_cSI3 {a1 a2 a3 : am_V} {P : Int → am_S → Prop} (hd : decode M.2.1 pc = .ok (.invokestatic idx, 3)) (hk : am_ls M.1.cls idx y 3) (hfit : am_fit M y) (h4 : rest.length ≤ 4) (hR : Runs T y [a1, a2, a3] σ (QI P)) (kk : ∀ z σ', P z σ' → AW T M (pc + 3) lv (vI z :: rest) σ' Q) : AW T M pc lv (a3 :: a2 :: a1 :: rest) σ Q :=
  AW_callS (av := [a1, a2, a3]) hd hk hfit rfl h4 hR (fun r σ' h => by obtain ⟨z, rfl, hp⟩ := h; exact kk z σ' hp)
theorem AW_cVV3 {a1 a2 a3 : am_V} {P : am_S → Prop} (hd : decode M.2.1 pc = .ok (.invokevirtual idx, 3)) (hk : am_lv' M.1.cls idx y 3) (hfit : am_fit M y) (ht : T[b]? = some (.inl (ci, fs))) (hc : (am_cl[ci]?).map (fun q => q.1) = some y.1.cls) (h4 : rest.length ≤ 4) (hR : Runs T y [vR b, a1, a2, a3] σ (QV P)) (kk : ∀ σ', P σ' → AW T M (pc + 3) lv rest σ' Q) : AW T M pc lv (a3 :: a2 :: a1 :: vR b :: rest) σ Q :=
  AW_callV (av := [a1, a2, a3]) hd hk hfit ht hc rfl h4 hR (fun r σ' h => by obtain ⟨rfl, hp⟩ := h; exact kk σ' hp)
theorem AW_cSV3 {a1 a2 a3 : am_V} {P : am_S → Prop} (hd : decode M.2.1 pc = .ok (.invokestatic idx, 3)) (hk : am_ls M.1.cls idx y 3) (hfit : am_fit M y) (h4 : rest.length ≤ 4) (hR : Runs T y [a1, a2, a3] σ (QV P)) (kk : ∀ σ', P σ' → AW T M (pc + 3) lv rest σ' Q) : AW T M pc lv (a3 :: a2 :: a1 :: rest) σ Q :=
  AW_callS (av := [a1, a2, a3]) hd hk hfit rfl h4 hR (fun r σ' h => by obtain ⟨rfl, hp⟩ := h; exact kk σ' hp)
theorem AW_cVI4 {a1 a2 a3 a4 : am_V} {P : Int → am_S → Prop} (hd : decode M.2.1 pc = .ok (.invokevirtual idx, 3)) (hk : am_lv' M.1.cls idx y 4) (hfit : am_fit M y) (ht : T[b]? = some (.inl (ci, fs))) (hc : (am_cl[ci]?).map (fun q => q.1) = some y.1.cls) (h4 : rest.length ≤ 4) (hR : Runs T y [vR b, a1, a2, a3, a4] σ (QI P)) (kk : ∀ z σ', P z σ' → AW T M (pc + 3) lv (vI z :: rest) σ' Q) : AW T M pc lv (a4 :: a3 :: a2 :: a1 :: vR b :: rest) σ Q :=
  AW_callV (av := [a1, a2, a3, a4]) hd hk hfit ht hc rfl h4 hR (fun r σ' h => by obtain ⟨z, rfl, hp⟩ := h; exact kk z σ' hp)
theorem AW_cSI4 {a1 a2 a3 a4 : am_V} {P : Int → am_S → Prop} (hd : decode M.2.1 pc = .ok (.invokestatic idx, 3)) (hk : am_ls M.1.cls idx y 4) (hfit : am_fit M y) (h4 : rest.length ≤ 4) (hR : Runs T y [a1, a2, a3, a4] σ (QI P)) (kk : ∀ z σ', P z σ' → AW T M (pc + 3) lv (vI z :: rest) σ' Q) : AW T M pc lv (a4 :: a3 :: a2 :: a1 :: rest) σ Q :=
  AW_callS (av := [a1, a2, a3, a4]) hd hk hfit rfl h4 hR (fun r σ' h => by obtain ⟨z, rfl, hp⟩ := h; exact kk z σ' hp)
theorem AW_cVV4 {a1 a2 a3 a4 : am_V} {P : am_S → Prop} (hd : decode M.2.1 pc = .ok (.invokevirtual idx, 3)) (hk : am_lv' M.1.cls idx y 4) (hfit : am_fit M y) (ht : T[b]? = some (.inl (ci, fs))) (hc : (am_cl[ci]?).map (fun q => q.1) = some y.1.cls) (h4 : rest.length ≤ 4) (hR : Runs T y [vR b, a1, a2, a3, a4] σ (QV P)) (kk : ∀ σ', P σ' → AW T M (pc + 3) lv rest σ' Q) : AW T M pc lv (a4 :: a3 :: a2 :: a1 :: vR b :: rest) σ Q :=
  AW_callV (av := [a1, a2, a3, a4]) hd hk hfit ht hc rfl h4 hR (fun r σ' h => by obtain ⟨rfl, hp⟩ := h; exact kk σ' hp)
theorem AW_cSV4 {a1 a2 a3 a4 : am_V} {P : am_S → Prop} (hd : decode M.2.1 pc = .ok (.invokestatic idx, 3)) (hk : am_ls M.1.cls idx y 4) (hfit : am_fit M y) (h4 : rest.length ≤ 4) (hR : Runs T y [a1, a2, a3, a4] σ (QV P)) (kk : ∀ σ', P σ' → AW T M (pc + 3) lv rest σ' Q) : AW T M pc lv (a4 :: a3 :: a2 :: a1 :: rest) σ Q :=
  AW_callS (av := [a1, a2, a3, a4]) hd hk hfit rfl h4 hR (fun r σ' h => by obtain ⟨rfl, hp⟩ := h; exact kk σ' hp)
/-- a row copied into a row -/
def am_cp (σ : am_S) (a0 a : Nat) (sp dp n : Nat) : am_S := (fun k j => if k = a ∧ dp ≤ j ∧ j < dp + n then σ.1 a0 (sp + (j - dp)) else σ.1 k j, σ.2)
def am_cpL (σ : am_S) (a0 a : Nat) (sp dp n : Nat) : am_S := (σ.1, fun k j => if k = a ∧ dp ≤ j ∧ j < dp + n then σ.2 a0 (sp + (j - dp)) else σ.2 k j)
theorem am_cpy_eq (a0 a sp dp n : Nat) : va_cpy (fun j => Int32.ofInt (σ.1 a0 j)) (fun j => Int32.ofInt (σ.1 a j)) sp dp n = fun j => Int32.ofInt ((am_cp σ a0 a sp dp n).1 a j) := by
  funext j
  by_cases h : dp ≤ j ∧ j < dp + n
  · simp [va_cpy, am_cp, h]
  · simp only [va_cpy, am_cp, h, if_false, and_false]
theorem am_cpyL_eq (a0 a sp dp n : Nat) : va_cpy (σ.2 a0) (σ.2 a) sp dp n = (am_cpL σ a0 a sp dp n).2 a := by
  funext j
  by_cases h : dp ≤ j ∧ j < dp + n
  · simp [va_cpy, am_cpL, h]
  · simp only [va_cpy, am_cpL, h, if_false, and_false]
theorem AW_copyi {a a0 n0 n1 : Nat} {sp dp n : Int} (hd : decode M.2.1 pc = .ok (.invokestatic idx, 3)) (hk : Cond.methodLink M.1.cls idx arraycopyName ∈ am_tb ∧ Cond.native arraycopyName ∈ am_tb ∧ Cond.static arraycopyName ∈ am_tb ∧ Cond.initialized "java/lang/System" ∈ am_tb) (hf : 1 ≤ M.2.2.2.2.1.frames) (hlo : 8 + (nativeFrameWords "java/lang/System" "arraycopy" 5 + 11) ≤ M.2.2.2.2.1.locals) (h4 : rest.length ≤ 4) (h0 : T[a0]? = some (.inr (.inl (0, n0)))) (h1 : T[a]? = some (.inr (.inl (0, n1)))) (hb : n0 < 2147483648 ∧ n1 < 2147483648) (hs : 0 ≤ sp ∧ 0 ≤ dp ∧ 0 ≤ n ∧ sp + n ≤ n0 ∧ dp + n ≤ n1) (k : AW T M (pc + 3) lv rest (am_cp σ a0 a sp.toNat dp.toNat n.toNat) Q) : AW T M pc lv (vI n :: vI dp :: vR a :: vI sp :: vR a0 :: rest) σ Q := by
  intro E p l e s m args below meth c H locs ls C G S L
  have hT : ∀ w ∈ am_tb, w.before args s = true := fun w hw => C.2.2.2.2.2.1 w (List.mem_cons_of_mem _ hw)
  have e1 := i32_clamp (x := sp) ⟨hs.1, by omega⟩
  have e2 := i32_clamp (x := dp) ⟨hs.2.1, by omega⟩
  have e3 := i32_clamp (x := n) ⟨hs.2.2.1, by omega⟩
  have hneg : ∀ x : Int, 0 ≤ x → x < 2147483648 → ¬ Int32.ofInt x < 0 := fun x hx hx2 h => by
    rw [i32_zero, i32_lt ⟨by omega, hx2⟩ i32_z] at h
    omega
  refine va_copyi (D := E.2.1) C.1 C.2.1 (C.2.2.2.1.trans L.1.symm) C.2.2.2.2.1 (hT _ hk.1) (hT _ hk.2.1) (hT _ hk.2.2.1) (hT _ hk.2.2.2) G.2.1 G.1 G.2.2.1 S a0 a 0 0 (am_ws_get h0) (am_ws_get h1) (ty := .int) rfl rfl rfl (hneg sp hs.1 (by omega)) (hneg dp hs.2.1 (by omega)) (hneg n hs.2.2.1 (by omega)) (by rw [e1, e3]; omega) (by rw [e2, e3]; omega) (fun i _ => rfl) hf (by have := am_cats (E := E) rest h4; omega) hd (fun H1 locs1 hP hD hS => ?_)
  rw [e1, e2, e3] at hP hD
  have hc := am_cpy_eq (σ := σ) a0 a sp.toNat dp.toNat n.toNat
  rw [hc] at hP hD
  have hw := am_ws_set (E := E) (σ := σ) (σ' := am_cp σ a0 a sp.toNat dp.toNat n.toNat) h1 (fun b hb => ⟨by funext j; simp [am_cp, hb], rfl⟩)
  have hw' : (am_ws T E σ).set a (E.1 a, .inl (E.2.2 0, n1, .inl (fun j => Int32.ofInt ((am_cp σ a0 a sp.toNat dp.toNat n.toNat).1 a j)))) = am_ws T E (am_cp σ a0 a sp.toNat dp.toNat n.toNat) := hw
  rw [hw'] at hP hD
  exact k E p l e s m args below meth c H1 locs1 ls C ⟨hP, G.2.1, hD, G.2.2.2⟩ hS L
theorem AW_copyl {a a0 n0 n1 : Nat} {sp dp n : Int} (hd : decode M.2.1 pc = .ok (.invokestatic idx, 3)) (hk : Cond.methodLink M.1.cls idx arraycopyName ∈ am_tb ∧ Cond.native arraycopyName ∈ am_tb ∧ Cond.static arraycopyName ∈ am_tb ∧ Cond.initialized "java/lang/System" ∈ am_tb) (hf : 1 ≤ M.2.2.2.2.1.frames) (hlo : 8 + (nativeFrameWords "java/lang/System" "arraycopy" 5 + 11) ≤ M.2.2.2.2.1.locals) (h4 : rest.length ≤ 4) (h0 : T[a0]? = some (.inr (.inl (2, n0)))) (h1 : T[a]? = some (.inr (.inl (2, n1)))) (hb : n0 < 2147483648 ∧ n1 < 2147483648) (hs : 0 ≤ sp ∧ 0 ≤ dp ∧ 0 ≤ n ∧ sp + n ≤ n0 ∧ dp + n ≤ n1) (k : AW T M (pc + 3) lv rest (am_cpL σ a0 a sp.toNat dp.toNat n.toNat) Q) : AW T M pc lv (vI n :: vI dp :: vR a :: vI sp :: vR a0 :: rest) σ Q := by
  intro E p l e s m args below meth c H locs ls C G S L
  have hT : ∀ w ∈ am_tb, w.before args s = true := fun w hw => C.2.2.2.2.2.1 w (List.mem_cons_of_mem _ hw)
  have e1 := i32_clamp (x := sp) ⟨hs.1, by omega⟩
  have e2 := i32_clamp (x := dp) ⟨hs.2.1, by omega⟩
  have e3 := i32_clamp (x := n) ⟨hs.2.2.1, by omega⟩
  have hneg : ∀ x : Int, 0 ≤ x → x < 2147483648 → ¬ Int32.ofInt x < 0 := fun x hx hx2 h => by
    rw [i32_zero, i32_lt ⟨by omega, hx2⟩ i32_z] at h
    omega
  refine va_copyl (D := E.2.1) C.1 C.2.1 (C.2.2.2.1.trans L.1.symm) C.2.2.2.2.1 (hT _ hk.1) (hT _ hk.2.1) (hT _ hk.2.2.1) (hT _ hk.2.2.2) G.2.1 G.1 G.2.2.1 S a0 a 2 2 (am_ws_get h0) (am_ws_get h1) (ty := .long) rfl rfl rfl (hneg sp hs.1 (by omega)) (hneg dp hs.2.1 (by omega)) (hneg n hs.2.2.1 (by omega)) (by rw [e1, e3]; omega) (by rw [e2, e3]; omega) (fun i _ => rfl) hf (by have := am_cats (E := E) rest h4; omega) hd (fun H1 locs1 hP hD hS => ?_)
  rw [e1, e2, e3] at hP hD
  have hc := am_cpyL_eq (σ := σ) a0 a sp.toNat dp.toNat n.toNat
  rw [hc] at hP hD
  have hw := am_ws_set (E := E) (σ := σ) (σ' := am_cpL σ a0 a sp.toNat dp.toNat n.toNat) h1 (fun b hb => ⟨rfl, by funext j; simp [am_cpL, hb]⟩)
  have hw' : (am_ws T E σ).set a (E.1 a, .inl (E.2.2 2, n1, .inr (.inl ((am_cpL σ a0 a sp.toNat dp.toNat n.toNat).2 a)))) = am_ws T E (am_cpL σ a0 a sp.toNat dp.toNat n.toNat) := hw
  rw [hw'] at hP hD
  exact k E p l e s m args below meth c H1 locs1 ls C ⟨hP, G.2.1, hD, G.2.2.2⟩ hS L
end AMK2
