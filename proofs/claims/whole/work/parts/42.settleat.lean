theorem ConC.sob {n k : Nat} {Tk So : Row} {f : Nat → Option Sl} (h : ConC n Tk So f) (hk : k < 20) : -1 ≤ So k ∧ So k < 1204 := by
  cases e : f k with
  | none => have := h.1 k hk e; omega
  | some s => obtain ⟨_, b, d⟩ := h.2.1 _ _ e; have := enc4_lt b; omega
theorem leaveC {σ σ' : am_S} {q n k : Nat} {f : Nat → Option Sl} (hk : k < 20) (hi : ∀ i j s, f i = some s → f j = some s → i = j) (hC : ConC n (σ.1 (q + 4)) (σ.1 (q + 3)) f) (h : σ' = if σ.1 (q + 3) k < 0 then σ else am_up (am_up σ (q + 4) (σ.1 (q + 3) k).toNat (-1)) (q + 3) k (-1)) : Eqx [q + 3, q + 4] σ σ' ∧ ConC n (σ'.1 (q + 4)) (σ'.1 (q + 3)) (but f k) := by
  cases e : f k with
  | none =>
    have h1 := hC.1 k hk e
    rw [if_pos (by omega)] at h
    subst h
    have hb : but f k = f := by
      funext j
      by_cases z : j = k
      · rw [z, but_self, e]
      · rw [but_ne z]
    rw [hb]
    exact ⟨Eqx.rf, hC⟩
  | some b =>
    obtain ⟨_, ob, db⟩ := hC.2.1 k b e
    rw [if_neg (by omega), db, Int.toNat_natCast] at h
    subst h
    refine ⟨(Eqx.rf.up (by simp)).up (by simp), ?_⟩
    have r3 : (am_up (am_up σ (q + 4) (enc4 b) (-1)) (q + 3) k (-1)).1 (q + 3) = rup (σ.1 (q + 3)) k (-1) := by rw [am_up_same, am_up_other (by omega)]
    have r4 : (am_up (am_up σ (q + 4) (enc4 b) (-1)) (q + 3) k (-1)).1 (q + 4) = rup (σ.1 (q + 4)) (enc4 b) (-1) := by rw [am_up_other (by omega), am_up_same]
    rw [r3, r4]
    refine ⟨fun j hj hn => ?_, fun j s hs => ?_, fun j s hs => ?_, fun x hx => ?_⟩
    · by_cases z : j = k
      · exact if_pos z
      · rw [but_ne z] at hn
        exact (if_neg z).trans (hC.1 j hj hn)
    · obtain ⟨z, h2⟩ := but_some hs
      obtain ⟨a1, a2, a3⟩ := hC.2.1 j s h2
      exact ⟨a1, a2, (if_neg z).trans a3⟩
    · obtain ⟨z, h2⟩ := but_some hs
      obtain ⟨a1, a2, a3⟩ := hC.2.1 j s h2
      refine (if_neg (fun z2 => ?_)).trans (hC.2.2.1 j s h2)
      have := enc4_inj a2 ob z2
      subst this
      exact z (hi j k s h2 e)
    · by_cases z : x = enc4 b
      · exact Or.inl (if_pos z)
      · rcases hC.2.2.2 x hx with g | ⟨j, g1, g2, g3⟩
        · exact Or.inl ((if_neg z).trans g)
        · refine Or.inr ⟨j, g1, (if_neg z).trans g2, ?_⟩
          rw [but_ne (fun z2 => ?_)]
          · exact g3
          · rw [z2, e] at g3
            cases g3
            exact z enc4_dec.symm
theorem holdK {σ σ' : am_S} {q n k c : Nat} {f : Nat → Option Sl} (hc : c < 1204) (hk : k < n) (hn : n ≤ 20) (hi : ∀ i j s, f i = some s → f j = some s → i = j) (hC : ConK n (σ.1 (q + 4)) (σ.1 (q + 3)) f c) (h : σ' = am_up (am_up σ (q + 3) k c) (q + 4) c k) : Eqx [q + 3, q + 4] σ σ' ∧ (∀ s, f k = some s → ConK n (σ'.1 (q + 4)) (σ'.1 (q + 3)) (put f k (dec4 c)) (enc4 s)) ∧ (f k = none → ConC n (σ'.1 (q + 4)) (σ'.1 (q + 3)) (put f k (dec4 c))) := by
  subst h
  have r3 : (am_up (am_up σ (q + 3) k c) (q + 4) c k).1 (q + 3) = rup (σ.1 (q + 3)) k c := by rw [am_up_other (by omega), am_up_same]
  have r4 : (am_up (am_up σ (q + 3) k c) (q + 4) c k).1 (q + 4) = rup (σ.1 (q + 4)) c k := by rw [am_up_same, am_up_other (by omega)]
  rw [r3, r4]
  exact ⟨(Eqx.rf.up (by simp)).up (by simp), hC.step hc hk hn hi⟩
set_option maxHeartbeats 4000000 in
theorem c_settleAt {A : Nat → Sl → Prop} {n k q : Nat} {σ0 : am_S} {f : Nat → Option Sl} {s : Sl} (hq : PT q) (hn : n ≤ 20) (hAok : ∀ k s, A k s → okS s) (hC : ConC n (σ0.1 (q + 4)) (σ0.1 (q + 3)) f) (hls : ∀ k, k < n → LsOK A k (σ0.1 (q + 1)) (σ0.1 (q + 2))) (hM : Mg A (fun j => j < n) f0 f) (hcount : σ0.1 q 0 = (n : Nat)) (hk : k < n) (hmax : MaxK A n k f) (hA : A k s) : Runs am_tab mX2_settleAt [vR q, vI k, vI (enc4 s : Nat)] σ0 (QI (fun z σ' => Eqx [q, q + 3, q + 4, q + 5, q + 6] σ0 σ' ∧ (σ'.1 q 0 = σ0.1 q 0 ∧ σ'.1 q 1 = σ0.1 q 1 ∧ σ'.1 q 10 = σ0.1 q 10) ∧ ((z = 1 ∧ ∃ f' : Nat → Option Sl, ConC n (σ'.1 (q + 4)) (σ'.1 (q + 3)) f' ∧ Mg A (fun j => j < n) f0 f' ∧ (∀ j, j < k → f' j = f j) ∧ f' k = some s ∧ MaxK A n k f') ∨ (z = 0 ∧ ConC n (σ'.1 (q + 4)) (σ'.1 (q + 3)) f ∧ (Fof f k s ∨ ¬ Works A n k (Fof f k) s))))) := by
  refine Runs.of (by decide) rfl (by simp) (Nat.le_of_ble_eq_true rfl) ?_
  show AW am_tab mX2_settleAt 0 [some (vR q), some (vI k), some (vI (enc4 s : Nat)), none, none] [] σ0 _
  have hsok := hAok k s hA
  have hsl := enc4_lt hsok
  have hsob := hC.sob (k := k) (by omega)
  refine AW_aload_n dX2_settleAt_0 rfl ?_
  refine AW_get dX2_settleAt_1 fX2_28 hq.1 rfl ?_
  refine AW_iload_n dX2_settleAt_4 rfl ?_
  refine AW_ialdN (j := enc4 s) dX2_settleAt_5 hq.2.2.2.2.1 (Nat.le_of_ble_eq_true rfl) (by omega) (by omega) ?_
  rcases hC.2.2.2 (enc4 s) hsl with hho | ⟨h, hhn, hhe, hhf⟩
  · rw [hho]
    refine AW_istore_n (i := 3) (lv' := [_, _, _, _, _]) dX2_settleAt_6 rfl (by decide) (Nat.le_of_ble_eq_true rfl) rfl ?_
    refine AW_iload_n dX2_settleAt_7 rfl ?_
    refine AW_if_lt 27 dX2_settleAt_8 (by decide) (by omega) (fun _ => ?_) (fun h9 => absurd h9 (by omega))
    refine AW_aload_n dX2_settleAt_27 rfl ?_
    refine AW_get dX2_settleAt_28 fX2_25 hq.1 rfl ?_
    refine AW_iload_n dX2_settleAt_31 rfl ?_
    refine AW_ialdN (j := k) dX2_settleAt_32 hq.2.2.2.1 (Nat.le_of_ble_eq_true rfl) (by omega) (by omega) ?_
    refine AW_istore (lv' := [_, _, _, _, _]) dX2_settleAt_33 (by decide) (Nat.le_of_ble_eq_true rfl) rfl ?_
    refine AW_aload_n dX2_settleAt_35 rfl ?_
    refine AW_iload_n dX2_settleAt_36 rfl ?_
    refine AW_cVV1 dX2_settleAt_37 kX2_99 (am_fit_b rfl) hq.1 rfl (Nat.le_of_ble_eq_true rfl) (c_leave hq (by omega) hsob) (fun σ1 hq2 => ?_)
    obtain ⟨hE1, hC1⟩ := leaveC (by omega) hM.2 hC hq2
    refine AW_iload_n dX2_settleAt_40 rfl ?_
    refine AW_if_lt 49 dX2_settleAt_41 (by decide) (by omega) (fun _ => ?_) (fun h9 => absurd h9 (by omega))
    have hfr : ∀ j, f j ≠ some s := fun j hj => by
      have := hC.2.2.1 j s hj
      omega
    have hK := hC1.hole (c := enc4 s) (fun j hj => by
      rw [dec4_enc hsok] at hj
      exact hfr j (but_some hj).2) hsl
    refine AW_aload_n dX2_settleAt_49 rfl ?_
    refine AW_iload_n dX2_settleAt_50 rfl ?_
    refine AW_iload_n dX2_settleAt_51 rfl ?_
    refine AW_cVV2 dX2_settleAt_52 kX2_103 (am_fit_b rfl) hq.1 rfl (Nat.le_of_ble_eq_true rfl) (c_hold hq (by omega) hsl) (fun σ2 hq3 => ?_)
    obtain ⟨hE2, _, hC2⟩ := holdK hsl hk hn hM.but.2 hK hq3
    replace hC2 := hC2 but_self
    rw [dec4_enc hsok] at hC2
    refine AW_iload_n dX2_settleAt_55 rfl ?_
    refine AW_if_lt 74 dX2_settleAt_56 (by decide) (by omega) (fun _ => ?_) (fun h9 => absurd h9 (by omega))
    refine AW_iconst dX2_settleAt_74 ?_
    refine AW_zret dX2_settleAt_75 rfl (by first | exact Or.inl rfl | exact Or.inr rfl) ?_
    have hEE := hE1.tr hE2
    have fr : Eqx [q, q + 3, q + 4, q + 5, q + 6] σ0 σ2 ∧ (σ2.1 q 0 = σ0.1 q 0 ∧ σ2.1 q 1 = σ0.1 q 1 ∧ σ2.1 q 10 = σ0.1 q 10) := ⟨hEE.mono (by simp), by rw [hEE.1 q (by simp)]; exact ⟨rfl, rfl, rfl⟩⟩
    obtain ⟨m1, m2, m3⟩ := move_max hk hM hmax hA (fun j _ => hfr j)
    exact ⟨_, rfl, fr.1, fr.2, Or.inl ⟨rfl, _, hC2, m1, m2, put_self, m3⟩⟩
  · rw [hhe]
    rw [dec4_enc hsok] at hhf
    refine AW_istore_n (i := 3) (lv' := [_, _, _, _, _]) dX2_settleAt_6 rfl (by decide) (Nat.le_of_ble_eq_true rfl) rfl ?_
    refine AW_iload_n dX2_settleAt_7 rfl ?_
    refine AW_if_lt 27 dX2_settleAt_8 (by decide) (by omega) (fun h9 => absurd h9 (by omega)) (fun _ => ?_)
    refine AW_iload_n dX2_settleAt_11 rfl ?_
    refine AW_iload_n dX2_settleAt_12 rfl ?_
    refine AW_icmp_gt 27 dX2_settleAt_13 (by decide) (by omega) (by omega) (fun h13 => ?_) (fun h13 => ?_)
    · refine AW_aload_n dX2_settleAt_27 rfl ?_
      refine AW_get dX2_settleAt_28 fX2_25 hq.1 rfl ?_
      refine AW_iload_n dX2_settleAt_31 rfl ?_
      refine AW_ialdN (j := k) dX2_settleAt_32 hq.2.2.2.1 (Nat.le_of_ble_eq_true rfl) (by omega) (by omega) ?_
      refine AW_istore (lv' := [_, _, _, _, _]) dX2_settleAt_33 (by decide) (Nat.le_of_ble_eq_true rfl) rfl ?_
      refine AW_aload_n dX2_settleAt_35 rfl ?_
      refine AW_iload_n dX2_settleAt_36 rfl ?_
      refine AW_cVV1 dX2_settleAt_37 kX2_99 (am_fit_b rfl) hq.1 rfl (Nat.le_of_ble_eq_true rfl) (c_leave hq (by omega) hsob) (fun σ1 hq2 => ?_)
      obtain ⟨hE1, hC1⟩ := leaveC (by omega) hM.2 hC hq2
      
      refine AW_iload_n dX2_settleAt_40 rfl ?_
      refine AW_if_lt 49 dX2_settleAt_41 (by decide) (by omega) (fun h9 => absurd h9 (by omega)) (fun _ => ?_)
      have hh : k < h := by omega
      refine AW_aload_n dX2_settleAt_44 rfl ?_
      refine AW_iload_n dX2_settleAt_45 rfl ?_
      refine AW_cVV1 dX2_settleAt_46 kX2_99 (am_fit_b rfl) hq.1 rfl (Nat.le_of_ble_eq_true rfl) (c_leave hq (by omega) (hC1.sob (by omega))) (fun σ2 hq3 => ?_)
      obtain ⟨hE2, hC2⟩ := leaveC (by omega) hM.but.2 hC1 hq3
      have hi2 := ((hM.but (k := k)).but (k := h)).2
      have hK := hC2.hole (c := enc4 s) (fun j hj => by
        rw [dec4_enc hsok] at hj
        obtain ⟨z1, z2⟩ := but_some hj
        exact z1 (hM.2 j h s (but_some z2).2 hhf)) hsl
      refine AW_aload_n dX2_settleAt_49 rfl ?_
      refine AW_iload_n dX2_settleAt_50 rfl ?_
      refine AW_iload_n dX2_settleAt_51 rfl ?_
      refine AW_cVV2 dX2_settleAt_52 kX2_103 (am_fit_b rfl) hq.1 rfl (Nat.le_of_ble_eq_true rfl) (c_hold hq (by omega) hsl) (fun σ3 hq4 => ?_)
      obtain ⟨hE3, _, hC3⟩ := holdK hsl hk hn hi2 hK hq4
      replace hC3 := hC3 (by rw [but_ne (by omega), but_self])
      rw [dec4_enc hsok] at hC3
      refine AW_iload_n dX2_settleAt_55 rfl ?_
      refine AW_if_lt 74 dX2_settleAt_56 (by decide) (by omega) (fun h9 => absurd h9 (by omega)) (fun _ => ?_)
      have hM3 : Mg A (fun j => j < n) f0 (put (but (but f k) h) k s) := hM.but.but.put hk hA (fun h => h) (fun j hj => by
        obtain ⟨z1, z2⟩ := but_some hj
        exact z1 (hM.2 j h s (but_some z2).2 hhf))
      have hEE := (hE1.tr hE2).tr hE3
      have fr : Eqx [q, q + 3, q + 4, q + 5, q + 6] σ0 σ3 ∧ (σ3.1 q 0 = σ0.1 q 0 ∧ σ3.1 q 1 = σ0.1 q 1 ∧ σ3.1 q 10 = σ0.1 q 10) := ⟨hEE.mono (by simp), by rw [hEE.1 q (by simp)]; exact ⟨rfl, rfl, rfl⟩⟩
      refine AW_iload dX2_settleAt_59 rfl ?_
      refine AW_if_lt 74 dX2_settleAt_61 (by decide) (by omega) (fun h61 => ?_) (fun h61 => ?_)
      · refine AW_iconst dX2_settleAt_74 ?_
        refine AW_zret dX2_settleAt_75 rfl (by first | exact Or.inl rfl | exact Or.inr rfl) ?_
        have hfk : f k = none := by
          cases e : f k with
          | none => rfl
          | some b => obtain ⟨_, _, d⟩ := hC.2.1 k b e; omega
        exact ⟨_, rfl, fr.1, fr.2, Or.inl ⟨rfl, _, hC3, hM3, fun j hj => by rw [put_ne (by omega), but_ne (by omega), but_ne (by omega)], put_self, swap_max hk (by omega) hM hmax hA hhf hfk⟩⟩
      · refine AW_aload_n dX2_settleAt_64 rfl ?_
        refine AW_iload_n dX2_settleAt_65 rfl ?_
        refine AW_iconst dX2_settleAt_66 ?_
        refine AW_iadd dX2_settleAt_67 ?_
        rw [show (k : Int) + 1 = ((k + 1 : Nat) : Int) by omega]
        refine AW_cVI1 dX2_settleAt_68 kX2_65 (am_fit_b rfl) hq.1 rfl (Nat.le_of_ble_eq_true rfl) (c_takeOneMore (A := A) (n := n) (first := k + 1) hq hn (by omega) hAok hC3 (by rw [hEE.1 (q + 1) (by simp), hEE.1 (q + 2) (by simp)]; exact hls) hM3 (by rw [hEE.1 q (by simp)]; exact hcount) (by omega)) (fun z σ4 hq5 => ?_)
        rcases hq5 with ⟨rfl, hE4, hfl, f2, g1, g2, g3, u, hu1, hu2, hu3, hu4, hdom⟩ | ⟨rfl, hE4, hfl, p, hp9, hF⟩
        · obtain ⟨b, hfk, hSb⟩ : ∃ b, f k = some b ∧ σ0.1 (q + 3) k = enc4 b := by
            cases e : f k with
            | none => have := hC.1 k (by omega) e; omega
            | some b => obtain ⟨_, _, d⟩ := hC.2.1 k b e; exact ⟨b, rfl, d⟩
          refine AW_if_eq 76 dX2_settleAt_71 (by decide) (by decide) (fun h => absurd h (by decide)) (fun _ => ?_)
          refine AW_iconst dX2_settleAt_74 ?_
          refine AW_zret dX2_settleAt_75 rfl (by first | exact Or.inl rfl | exact Or.inr rfl) ?_
          obtain ⟨m1, m2, m3⟩ := more_max hk hhn hh hhf hfk hmax g2 g3 hu1 hu2 hu3 hu4 hdom
          refine ⟨_, rfl, fr.1.tr hE4, ⟨hfl.1.trans fr.2.1, hfl.2.1.trans fr.2.2.1, hfl.2.2.trans fr.2.2.2⟩, Or.inl ⟨rfl, f2, g1, g2, m1, m2, m3⟩⟩
        · obtain ⟨b, hfk, hSb⟩ : ∃ b, f k = some b ∧ σ0.1 (q + 3) k = enc4 b := by
            cases e : f k with
            | none => have := hC.1 k (by omega) e; omega
            | some b => obtain ⟨_, _, d⟩ := hC.2.1 k b e; exact ⟨b, rfl, d⟩
          refine AW_if_eq 76 dX2_settleAt_71 (by decide) (by decide) (fun _ => ?_) (fun h => absurd rfl h)
          rw [hSb]
          have hbok := hAok k b (hM.1 k b hfk).2.1
          have hbl := enc4_lt hbok
          have hbs : b ≠ s := fun e => by
            subst e
            have := hM.2 k h b hfk hhf
            omega
          have hC4 : ConC n (σ4.1 (q + 4)) (σ4.1 (q + 3)) (put (but (but f k) h) k s) := by
            rw [hE4.1 (q + 4) (by simp), hE4.1 (q + 3) (by simp)]
            exact hC3
          have hK4 := hC4.hole (c := enc4 b) (fun j hj => by
            rw [dec4_enc hbok] at hj
            by_cases z : j = k
            · rw [z, put_self] at hj; cases hj; exact hbs rfl
            · rw [put_ne z] at hj
              obtain ⟨z1, z2⟩ := but_some hj
              exact z (hM.2 j k b (but_some z2).2 hfk)) hbl
          refine AW_aload_n dX2_settleAt_76 rfl ?_
          refine AW_iload_n dX2_settleAt_77 rfl ?_
          refine AW_iload dX2_settleAt_78 rfl ?_
          refine AW_cVV2 dX2_settleAt_80 kX2_103 (am_fit_b rfl) hq.1 rfl (Nat.le_of_ble_eq_true rfl) (c_hold hq (by omega) hbl) (fun σ5 hq6 => ?_)
          obtain ⟨hE5, hK5, _⟩ := holdK hbl hk hn hM3.2 hK4 hq6
          replace hK5 := hK5 s put_self
          refine AW_aload_n dX2_settleAt_83 rfl ?_
          refine AW_iload_n dX2_settleAt_84 rfl ?_
          refine AW_iload_n dX2_settleAt_85 rfl ?_
          refine AW_cVV2 dX2_settleAt_86 kX2_103 (am_fit_b rfl) hq.1 rfl (Nat.le_of_ble_eq_true rfl) (c_hold hq (by omega) hsl) (fun σ6 hq7 => ?_)
          have hM5 : Mg A (fun j => j < n) f0 (put (but (but f k) h) k (dec4 (enc4 b))) := by
            rw [dec4_enc hbok]
            exact hM.but.but.put hk (hM.1 k b hfk).2.1 (fun h => h) (fun j hj => by
              obtain ⟨z1, z2⟩ := but_some hj
              obtain ⟨z3, z4⟩ := but_some z2
              exact z3 (hM.2 j k b z4 hfk))
          have epp : put (put (but (but f k) h) k s) k (dec4 (enc4 b)) = put (but (but f k) h) k (dec4 (enc4 b)) := by
            funext j
            by_cases z : j = k
            · rw [z, put_self, put_self]
            · rw [put_ne z, put_ne z, put_ne z]
          rw [epp] at hK5
          obtain ⟨hE6, _, hC6⟩ := holdK hsl hhn hn hM5.2 hK5 hq7
          replace hC6 := hC6 (by rw [put_ne (by omega), but_self])
          have eff : put (put (but (but f k) h) k (dec4 (enc4 b))) h (dec4 (enc4 s)) = f := by
            funext j
            rw [dec4_enc hbok, dec4_enc hsok]
            by_cases z : j = h
            · rw [z, put_self, hhf]
            · rw [put_ne z]
              by_cases z2 : j = k
              · rw [z2, put_self, hfk]
              · rw [put_ne z2, but_ne z, but_ne z2]
          rw [eff] at hC6
          refine AW_iconst dX2_settleAt_89 ?_
          refine AW_zret dX2_settleAt_90 rfl (by first | exact Or.inl rfl | exact Or.inr rfl) ?_
          have e5 := hE5.1 q (by simp)
          have e6 := hE6.1 q (by simp)
          refine ⟨_, rfl, ((fr.1.tr (hE4.mono (by simp))).tr (hE5.mono (by simp))).tr (hE6.mono (by simp)), ?_, Or.inr ⟨rfl, hC6, Or.inr (fail_works hk hhn hh hhf hfk hmax hM3 hF)⟩⟩
          rw [e6, e5]
          exact ⟨hfl.1.trans fr.2.1, hfl.2.1.trans fr.2.2.1, hfl.2.2.trans fr.2.2.2⟩
    · refine AW_iload_n dX2_settleAt_16 rfl ?_
      refine AW_iload_n dX2_settleAt_17 rfl ?_
      refine AW_icmp_ne 25 dX2_settleAt_18 (by decide) (by omega) (by omega) (fun h18 => ?_) (fun h18 => ?_)
      · have hlow : h < k := by omega
        refine AW_iconst dX2_settleAt_25 ?_
        refine AW_zret dX2_settleAt_26 rfl (by first | exact Or.inl rfl | exact Or.inr rfl) ?_
        first
        | exact ⟨_, rfl, Eqx.rf, ⟨rfl, rfl, rfl⟩, Or.inr ⟨rfl, hC, Or.inl ⟨h, hlow, hhf⟩⟩⟩
        | (subst hkh; exact ⟨_, rfl, Eqx.rf, ⟨rfl, rfl, rfl⟩, Or.inl ⟨rfl, f, hC, hM, fun _ _ => rfl, hhf, hmax⟩⟩)
      · have hkh : h = k := by omega
        refine AW_iconst dX2_settleAt_21 ?_
        refine AW_goto (tgt := 26) dX2_settleAt_22 (by decide) ?_
        refine AW_zret dX2_settleAt_26 rfl (by first | exact Or.inl rfl | exact Or.inr rfl) ?_
        first
        | exact ⟨_, rfl, Eqx.rf, ⟨rfl, rfl, rfl⟩, Or.inr ⟨rfl, hC, Or.inl ⟨h, hlow, hhf⟩⟩⟩
        | (subst hkh; exact ⟨_, rfl, Eqx.rf, ⟨rfl, rfl, rfl⟩, Or.inl ⟨rfl, f, hC, hM, fun _ _ => rfl, hhf, hmax⟩⟩)
