-- ===== what the two constructors leave is the invariant =====
theorem Xz_lo {t : Nat} (h : t ≤ 300) : Xz t = if t = 0 then 2 else -6 := by
  show (if t = 6422 then 2 else if t = 6421 then 3 else mp2 4 t) = _
  rw [if_neg (by omega), if_neg (by omega)]
  show (if t < 301 then _ else _) = _
  rw [if_pos (by omega)]
theorem Xz_arm {a : Nat} (ha : a < 4) : Xz (6401 + a) = 100 * (a : Int) + 100 ∧ Xz (6405 + a) = 100 * (a : Int) + 160 ∧ Xz (6409 + a) = 5 ∧ Xz (6413 + a) = 0 ∧ Xz (6417 + a) = 15 := by
  rcases (show a = 0 ∨ a = 1 ∨ a = 2 ∨ a = 3 by omega) with rfl | rfl | rfl | rfl
  · exact ⟨by decide +kernel, by decide +kernel, by decide +kernel, by decide +kernel, by decide +kernel⟩
  · exact ⟨by decide +kernel, by decide +kernel, by decide +kernel, by decide +kernel, by decide +kernel⟩
  · exact ⟨by decide +kernel, by decide +kernel, by decide +kernel, by decide +kernel, by decide +kernel⟩
  · exact ⟨by decide +kernel, by decide +kernel, by decide +kernel, by decide +kernel, by decide +kernel⟩
theorem Xz_n : Xz 6421 = 3 ∧ Xz 6422 = 2 ∧ Xz 6423 = 0 ∧ Xz 0 = 2 := ⟨by decide +kernel, by decide +kernel, by decide +kernel, by decide +kernel⟩
theorem Xz_W : WX Xz := by
  obtain ⟨n1, n2, n3, n4⟩ := Xz_n
  refine ⟨⟨by omega, fun t ht => ?_⟩, ⟨by omega, fun k hk => ?_⟩, ⟨fun a ha => ?_, fun a b ha hb hab => ?_⟩, ⟨by omega, by omega⟩⟩
  · rw [Xz_lo ht]
    split <;> omega
  · exfalso
    omega
  · obtain ⟨a1, a2, a3, a4, a5⟩ := Xz_arm ha
    rw [a1, a2, a3, a4, a5]
    omega
  · obtain ⟨a1, a2, -⟩ := Xz_arm ha
    obtain ⟨b1, b2, -⟩ := Xz_arm hb
    rw [a1, a2, b1, b2]
    omega
theorem Xz_B {tk sp : Row} (h : ∀ i, i < 8 → tk i = 0 ∧ sp i = 0) : BeltOK Xz 2 0 tk sp := by
  refine ⟨Xz_n.2.2.2.symm, ⟨by omega, by omega⟩, fun i hi => ?_, fun i hi => ?_, fun i j _ hj => ?_, fun i hi => ?_, fun t h1 h2 h3 => ?_⟩
  · obtain ⟨e1, e2⟩ := h i hi
    rw [e1, e2]
    omega
  · exfalso
    omega
  · exfalso
    omega
  · exfalso
    omega
  · exfalso
    rw [Xz_lo h2, if_neg (by omega)] at h3
    omega
theorem Inv_start {σx σm : am_S} (hx : PX0 σx) (hm : PM0 σm) : Inv (cS 70 σx σm) := by
  obtain ⟨x1, x2, s1, s2, ⟨b1, b2, b3, b4⟩, ht, ha⟩ := hx
  obtain ⟨m1, m2, m3⟩ := hm
  have s1' : σx.1 2 3 = 3 := s1
  have s2' : σx.1 2 4 = 2 := s2
  have b1' : σx.1 3 0 = 2 := b1
  have b2' : σx.1 3 1 = 0 := b2
  have b3' : ∀ i, i < 8 → σx.1 4 i = 0 ∧ σx.1 5 i = 0 := b3
  have b4' : ∀ t, t ≤ 300 → σx.1 6 t = cgn 2 0 (fun _ => 0) (fun _ => 0) t := b4
  have ht' : σx.1 7 0 = 0 := ht
  have ha' : ∀ a : Nat, a < 4 → σx.1 14 a = 100 * (a : Int) + 100 ∧ σx.1 15 a = 100 * (a : Int) + 160 ∧ σx.1 16 a = 5 ∧ σx.1 17 a = 0 ∧ σx.1 18 a = 15 := ha
  obtain ⟨n1, n2, n3, n4⟩ := Xz_n
  show CC (cS 70 σx σm) (σm.1 1) (σm.1 3) (imR (cS 70 σx σm))
  rw [m1]
  refine ⟨Xz_W, ⟨?_, fun t h => ?_, ⟨?_, fun k hk => ?_⟩, fun a h => ?_, fun k hk => ?_, ?_, ?_⟩, fun k hk => ?_, ?_, fun k hk hK => ?_, Or.inl x2⟩
  · show BeltOK Xz (σx.1 3 0) (σx.1 3 1) (σx.1 4) (σx.1 5)
    rw [b1', b2']
    exact Xz_B b3'
  · show σx.1 6 t = gn Xz t
    rw [b4' t h]
    exact cgn_gn (Xz_B (fun i _ => ⟨rfl, rfl⟩)) t (by omega)
  · show σx.1 7 0 = Xz 6423
    omega
  · exfalso
    omega
  · obtain ⟨a1, a2, a3, a4, a5⟩ := Xz_arm h
    obtain ⟨c1, c2, c3, c4, c5⟩ := ha' a h
    exact ⟨c1.trans a1.symm, c2.trans a2.symm, c3.trans a3.symm, c4.trans a4.symm, c5.trans a5.symm⟩
  · exfalso
    omega
  · show σx.1 2 3 = Xz 6421
    omega
  · show σx.1 2 4 = Xz 6422
    omega
  · rcases (show k = 0 ∨ k = 1 by omega) with rfl | rfl
    · omega
    · omega
  · show σx.1 0 2 = σm.1 3 0 + 2 * σm.1 3 1
    omega
  · exfalso
    rcases (show k = 0 ∨ k = 1 by omega) with rfl | rfl
    · omega
    · omega
