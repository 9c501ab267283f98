theorem PL.move {X : Row} {n : Nat} {σ0 σ σ' : am_S} {k : Nat} {pl : Nat → Option Sl} {L : Nat} (h : PL X n σ0 σ k pl L) (hE : Eqx [70, 74, 75, 76, 77, 78, 79, 80, 81, 82, 83] σ0 σ') (hGo : Gok X (-6) n σ') (h78 : ∀ j, j < 20 → σ'.1 78 j = 0) (h77 : ∀ c, c < 1204 → σ'.1 77 c = σ.1 77 c) (hw : ∀ j, j < k → σ'.1 82 j = σ.1 82 j ∧ σ'.1 83 j = σ.1 83 j) (h70 : σ'.1 70 13 = σ0.1 70 13) : PL X n σ0 σ' k pl L := by
  obtain ⟨h1, h2, h3, h4, h5, h6, h7, h8, h9⟩ := h
  refine ⟨hE, hGo, h78, fun c hc => by rw [h77 c hc]; exact h4 c hc, h5, fun j hj => ?_, h7, h8, h70⟩
  have := h6 j hj
  unfold wbR at this ⊢
  rw [(hw j hj).1, (hw j hj).2]
  exact this
theorem gA_uni {X : Row} {w : Int} {k t a : Nat} (ha : avX X w k t 4 = (a : Int)) {s : Sl} (hs : gA X w k s) (ht : s.1 = t) : s = (t, a) := by
  obtain ⟨t2, a2⟩ := s
  have h2 : t2 = t := ht
  subst h2
  have h3 : avX X w k t2 4 = (a2 : Int) := hs.2
  have : a2 = a := by omega
  subst this
  rfl
set_option maxHeartbeats 4000000 in
theorem l_layPlan7t {X : Row} {n k L : Nat} {σ0 : am_S} {pl : Nat → Option Sl} (hk : k < n) {Q : Option am_V → am_S → Prop} (hNext : ∀ (σ : am_S) (pl2 : Nat → Option Sl) (L2 : Nat), PL X n σ0 σ (k + 1) pl2 L2 → ∀ x y : Option am_V, AW am_tab mX7_layPlan 169 [some (vR 70), some (vI (L2 : Nat)), some (vI (k : Nat)), x, y] [] σ Q) : ∀ t : Nat, t ≤ 301 → ∀ σ : am_S, PL X n σ0 σ k pl L → (σ.1 82 k = -6 ∧ σ.1 83 k = -6) → (∀ s, gA X (-6) k s → ¬ Fof pl k s → s.1 < t → ¬ Works (gA X (-6)) n k (Fof pl k) s) → ∀ x : Option am_V, AW am_tab mX7_layPlan 56 [some (vR 70), some (vI (L : Nat)), some (vI (k : Nat)), some (vI (t : Nat)), x] [] σ Q :=
  up_loop (fun t ht ih σ hPL hw6 hno x => by
    have hGo := hPL.2.1
    have hLb := hPL.L_le
    have hn := hGo.2.2.2.2
    refine AW_iload_n dX7_layPlan_56 rfl ?_
    refine AW_sipush dX7_layPlan_57 (by decide) ?_
    refine AW_icmp_ge 169 dX7_layPlan_60 (by decide) (by omega) (by omega) (fun h60 => ?_) (fun h60 => ?_)
    · refine hNext σ pl L (hPL.miss hk (fun s hs hFs => hno s hs hFs (by have := hs.1.1; omega)) hw6) _ _
    · refine AW_aload_n dX7_layPlan_63 rfl ?_
      refine AW_get dX7_layPlan_64 fX7_44 rfl rfl ?_
      refine AW_iload_n dX7_layPlan_67 rfl ?_
      refine AW_ialdN (j := k) dX7_layPlan_68 rfl (Nat.le_of_ble_eq_true rfl) (by omega) (by omega) ?_
      rw [hw6.1]
      refine AW_if_ge 169 dX7_layPlan_69 (by decide) (by decide) (fun h => absurd h (by decide)) (fun _ => ?_)
      refine AW_aload_n dX7_layPlan_72 rfl ?_
      refine AW_get dX7_layPlan_73 fX7_23 rfl rfl ?_
      refine AW_sipush dX7_layPlan_76 (by decide) ?_
      refine AW_iload_n dX7_layPlan_79 rfl ?_
      refine AW_imul dX7_layPlan_80 ?_
      refine AW_iload_n dX7_layPlan_81 rfl ?_
      refine AW_iadd dX7_layPlan_82 ?_
      refine AW_ialdN (j := 301 * k + t) dX7_layPlan_83 rfl (Nat.le_of_ble_eq_true rfl) (by omega) (by omega) ?_
      rw [hGo.1 k t hk (by omega)]
      have hgb := hGo.hG k t hk (by omega)
      rw [hGo.1 k t hk (by omega)] at hgb
      refine AW_istore (lv' := [_, _, _, _, _]) dX7_layPlan_84 (by decide) (Nat.le_of_ble_eq_true rfl) rfl ?_
      refine AW_iload dX7_layPlan_86 rfl ?_
      refine AW_if_lt 163 dX7_layPlan_88 (by decide) (by omega) (fun h88 => ?_) (fun h88 => ?_)
      · refine AW_iinc (lv' := [_, _, _, _, _]) dX7_layPlan_163 rfl (by decide) rfl ?_
        refine AW_goto (tgt := 56) dX7_layPlan_166 (by decide) ?_
        refine ih (by omega) σ hPL hw6 (fun s hs hFs hst => ?_) _
        by_cases e : s.1 < t
        · exact hno s hs hFs e
        · exfalso
          have h3 := hs.2
          rw [show s.1 = t by omega] at h3
          omega
      · obtain ⟨a, hae⟩ : ∃ a : Nat, avX X (-6) k t 4 = a := ⟨_, (Int.toNat_of_nonneg (by omega)).symm⟩
        have ha4 : a < 4 := by
          have := hGo.hG k t hk (by omega)
          rw [hGo.1 k t hk (by omega)] at this
          omega
        rw [hae]
        have hok : okS (t, a) := ⟨by dsimp only; omega, ha4⟩
        have hgA : gA X (-6) k (t, a) := ⟨hok, hae⟩
        have henc : enc (t, a) = 301 * a + t := rfl
        have hz := hPL.2.2.2.1 (301 * a + t) (by omega)
        rw [← henc, dec_enc hok, henc] at hz
        refine AW_aload_n dX7_layPlan_91 rfl ?_
        refine AW_get dX7_layPlan_92 fX7_29 rfl rfl ?_
        refine AW_iload dX7_layPlan_95 rfl ?_
        refine AW_iload_n dX7_layPlan_97 rfl ?_
        refine AW_cSI2 dX7_layPlan_98 kX7_95 (am_fit_b rfl) (Nat.le_of_ble_eq_true rfl) (c_slot7) (fun z σ' hq => ?_)
        obtain ⟨hz, hs⟩ := hq
        replace hz := hz.symm
        subst hz
        replace hs := hs.symm
        subst hs
        refine AW_zaldN (j := 301 * a + t) dX7_layPlan_101 rfl (Nat.le_of_ble_eq_true rfl) (by omega) (by omega) ?_
        have hzb := hGo.2.2.1 (301 * a + t) (by omega)
        refine AW_if_ne 163 dX7_layPlan_102 (by decide) (by omega) (fun h102 => ?_) (fun h102 => ?_)
        · refine AW_iinc (lv' := [_, _, _, _, _]) dX7_layPlan_163 rfl (by decide) rfl ?_
          refine AW_goto (tgt := 56) dX7_layPlan_166 (by decide) ?_
          refine ih (by omega) σ hPL hw6 (fun s hs hFs hst => ?_) _
          by_cases e : s.1 < t
          · exact hno s hs hFs e
          · have e2 := gA_uni hae hs (show s.1 = t by omega)
            subst e2
            rcases hz with ⟨z1, z2⟩ | ⟨z1, z2⟩
            · omega
            · exact absurd z2 hFs
        · refine AW_aload_n dX7_layPlan_105 rfl ?_
          refine AW_get dX7_layPlan_106 fX7_29 rfl rfl ?_
          refine AW_iload dX7_layPlan_109 rfl ?_
          refine AW_iload_n dX7_layPlan_111 rfl ?_
          refine AW_cSI2 dX7_layPlan_112 kX7_95 (am_fit_b rfl) (Nat.le_of_ble_eq_true rfl) (c_slot7) (fun z σ' hq => ?_)
          obtain ⟨hz, hs⟩ := hq
          replace hz := hz.symm
          subst hz
          replace hs := hs.symm
          subst hs
          refine AW_iconst dX7_layPlan_115 ?_
          refine AW_zastN (j := 301 * a + t) dX7_layPlan_116 rfl (Nat.le_of_ble_eq_true rfl) (by omega) (by omega) (by first | exact Or.inl rfl | exact Or.inr rfl) ?_
          have hz0 : σ.1 77 (301 * a + t) = 0 ∧ ¬ Fof pl k (t, a) := by
            rcases hz with z | ⟨z1, z2⟩
            · exact z
            · omega
          have r77 : (am_up σ 77 (301 * a + t) 1).1 77 = rup (σ.1 77) (301 * a + t) 1 := am_up_same
          have hGo1 : Gok X (-6) n (am_up σ 77 (301 * a + t) 1) := by
            refine ⟨by rw [am_up_other (by decide)]; exact hGo.1, by rw [am_up_other (by decide)]; exact hGo.2.1, fun c hc => ?_, by rw [am_up_other (by decide)]; exact hGo.2.2.2.1, hn⟩
            rw [r77]
            simp only [rup]
            split
            · decide
            · exact hGo.2.2.1 c hc
          have h78 : ∀ j, j < 20 → (am_up σ 77 (301 * a + t) 1).1 78 j = 0 := by rw [am_up_other (by decide)]; exact hPL.2.2.1
          have hFx : ∀ s, okS s → (bx_Fd ((am_up σ 77 (301 * a + t) 1).1 77) s ↔ Fx (Fof pl k) (t, a) s) := fun s hs => by
            unfold bx_Fd
            rw [r77]
            simp only [rup]
            by_cases e : enc s = 301 * a + t
            · have e2 : s = (t, a) := enc_inj hs hok (e.trans henc.symm)
              rw [if_pos e]
              exact ⟨fun _ => Or.inr e2, fun _ => by decide⟩
            · rw [if_neg e]
              have hne : s ≠ (t, a) := fun z => e (by rw [z]; exact henc)
              have hzs := hPL.2.2.2.1 (enc s) (enc_lt hs)
              rw [dec_enc hs] at hzs
              rcases hzs with ⟨z1, z2⟩ | ⟨z1, z2⟩
              · exact ⟨fun z => absurd z1 z, fun z => z.elim (fun y => absurd y z2) (fun y => absurd y hne)⟩
              · exact ⟨fun _ => Or.inl z2, fun _ => by omega⟩
          refine AW_iconst dX7_layPlan_117 ?_
          refine AW_aload_n dX7_layPlan_118 rfl ?_
          refine AW_iload_n dX7_layPlan_119 rfl ?_
          refine AW_iconst dX7_layPlan_120 ?_
          refine AW_iadd dX7_layPlan_121 ?_
          refine AW_cVI1 dX7_layPlan_122 kX7_112 (am_fit_b rfl) rfl rfl (Nat.le_of_ble_eq_true rfl) (c_most7 (σ0 := am_up σ 77 (301 * a + t) 1) (n := n) (fr := k + 1) hn hGo1.hG hGo1.2.2.1 hGo1.2.1 hGo1.2.2.2.1 (by omega)) (fun z σ' hq => ?_)
          obtain ⟨m, rfl, h1, h2⟩ := hq
          have hmax := hGo1.most h2 (bx_P_0 h78 hn) hFx
          have hmb : m ≤ 20 := by
            obtain ⟨⟨g, _, hg⟩, _⟩ := hmax
            rw [← hg, sz_cnt]
            exact Nat.le_trans (cnt_le _ _) hn
          have hGo2 := hGo1.kept h1
          refine AW_iadd dX7_layPlan_125 ?_
          refine AW_iload_n dX7_layPlan_126 rfl ?_
          refine AW_icmp_ne 151 dX7_layPlan_127 (by decide) (by omega) (by omega) (fun h127 => ?_) (fun h127 => ?_)
          · refine AW_aload_n dX7_layPlan_151 rfl ?_
            refine AW_get dX7_layPlan_152 fX7_29 rfl rfl ?_
            refine AW_iload dX7_layPlan_155 rfl ?_
            refine AW_iload_n dX7_layPlan_157 rfl ?_
            refine AW_cSI2 dX7_layPlan_158 kX7_95 (am_fit_b rfl) (Nat.le_of_ble_eq_true rfl) (c_slot7) (fun z σ' hq => ?_)
            obtain ⟨hz, hs⟩ := hq
            replace hz := hz.symm
            subst hz
            replace hs := hs.symm
            subst hs
            refine AW_iconst dX7_layPlan_161 ?_
            refine AW_zastN (j := 301 * a + t) dX7_layPlan_162 rfl (Nat.le_of_ble_eq_true rfl) (by omega) (by omega) (by first | exact Or.inl rfl | exact Or.inr rfl) ?_
            have r77b : (am_up σ' 77 (301 * a + t) 0).1 77 = rup (rup (σ.1 77) (301 * a + t) 1) (301 * a + t) 0 := by rw [am_up_same, h1.1 77 (by decide), r77]
            have e77 : ∀ c, (am_up σ' 77 (301 * a + t) 0).1 77 c = σ.1 77 c := fun c => by
              rw [r77b]
              simp only [rup]
              by_cases e : c = 301 * a + t
              · rw [if_pos e, e, hz0.1]
              · rw [if_neg e, if_neg e]
            have hPL2 : PL X n σ0 (am_up σ' 77 (301 * a + t) 0) k pl L := by
              refine hPL.move (((hPL.1.up (by decide)).tr (h1.mono (by decide))).up (by decide)) ?_ ?_ (fun c _ => e77 c) (fun j hj => ?_) ?_
              · refine ⟨by rw [am_up_other (by decide)]; exact hGo2.1, by rw [am_up_other (by decide)]; exact hGo2.2.1, fun c hc => by rw [e77 c]; exact hGo.2.2.1 c hc, by rw [am_up_other (by decide)]; exact hGo2.2.2.2.1, hn⟩
              · rw [am_up_other (by decide), h1.1 78 (by decide)]; exact h78
              · rw [am_up_other (by decide), am_up_other (by decide), h1.1 82 (by decide), h1.1 83 (by decide), am_up_other (by decide), am_up_other (by decide)]; exact ⟨rfl, rfl⟩
              · rw [am_up_other (by decide), h1.1 70 (by decide), am_up_other (by decide)]; exact hPL.2.2.2.2.2.2.2.2
            have hw62 : (am_up σ' 77 (301 * a + t) 0).1 82 k = -6 ∧ (am_up σ' 77 (301 * a + t) 0).1 83 k = -6 := by
              rw [am_up_other (by decide), am_up_other (by decide), h1.1 82 (by decide), h1.1 83 (by decide), am_up_other (by decide), am_up_other (by decide)]
              exact hw6
            refine AW_iinc (lv' := [_, _, _, _, _]) dX7_layPlan_163 rfl (by decide) rfl ?_
            refine AW_goto (tgt := 56) dX7_layPlan_166 (by decide) ?_
            refine ih (by omega) _ hPL2 hw62 (fun s hs hFs hst => ?_) _
            by_cases e : s.1 < t
            · exact hno s hs hFs e
            · have e2 := gA_uni hae hs (show s.1 = t by omega)
              subst e2
              rintro ⟨m2, g1, g2⟩
              have u1 := hmax.uniq g1
              have u2 := hPL.2.2.2.2.1.uniq g2
              omega
          · refine AW_aload_n dX7_layPlan_130 rfl ?_
            refine AW_get dX7_layPlan_131 fX7_44 rfl rfl ?_
            refine AW_iload_n dX7_layPlan_134 rfl ?_
            refine AW_iload_n dX7_layPlan_135 rfl ?_
            refine AW_iastN (j := k) dX7_layPlan_136 rfl (Nat.le_of_ble_eq_true rfl) (by omega) (by omega) ?_
            refine AW_aload_n dX7_layPlan_137 rfl ?_
            refine AW_get dX7_layPlan_138 fX7_47 rfl rfl ?_
            refine AW_iload_n dX7_layPlan_141 rfl ?_
            refine AW_iload dX7_layPlan_142 rfl ?_
            refine AW_iastN (j := k) dX7_layPlan_144 rfl (Nat.le_of_ble_eq_true rfl) (by omega) (by omega) ?_
            refine AW_iinc (lv' := [_, _, _, _, _]) dX7_layPlan_145 rfl (by decide) rfl ?_
            refine AW_goto (tgt := 163) dX7_layPlan_148 (by decide) ?_
            have hE3 : Eqx [70, 74, 75, 76, 77, 78, 79, 80, 81, 82, 83] σ0 (am_up (am_up σ' 82 k t) 83 k a) := ((((hPL.1.up (by decide)).tr (h1.mono (by decide))).up (by decide)).up (by decide))
            have r82 : (am_up (am_up σ' 82 k t) 83 k a).1 82 = rup (σ.1 82) k t := by rw [am_up_other (by decide), am_up_same, h1.1 82 (by decide), am_up_other (by decide)]
            have r83 : (am_up (am_up σ' 82 k t) 83 k a).1 83 = rup (σ.1 83) k a := by rw [am_up_same, am_up_other (by decide), h1.1 83 (by decide), am_up_other (by decide)]
            have r77b : (am_up (am_up σ' 82 k t) 83 k a).1 77 = rup (σ.1 77) (301 * a + t) 1 := by rw [am_up_other (by decide), am_up_other (by decide), h1.1 77 (by decide), r77]
            have hPL2 : PL X n σ0 (am_up (am_up σ' 82 k t) 83 k a) (k + 1) (put pl k (t, a)) m := by
              refine hPL.take hE3 ?_ ?_ (fun c hc => by rw [r77b]; rfl) hok hgA hz0.2 hmax (by omega) hno (fun j hj => ?_) ?_ ?_
              · unfold Gok
                rw [am_up_other (by decide), am_up_other (by decide), am_up_other (by decide), am_up_other (by decide), am_up_other (by decide), am_up_other (by decide), am_up_other (by decide), am_up_other (by decide)]
                exact hGo2
              · rw [am_up_other (by decide), am_up_other (by decide), h1.1 78 (by decide)]
                exact h78
              · rw [r82, r83]
                simp only [rup]
                rw [if_neg (by omega), if_neg (by omega)]
                exact ⟨rfl, rfl⟩
              · rw [r82, r83]
                simp only [rup, if_true]
                exact ⟨trivial, trivial⟩
              · rw [am_up_other (by decide), am_up_other (by decide), h1.1 70 (by decide), am_up_other (by decide)]
                exact hPL.2.2.2.2.2.2.2.2
            rw [show ((L : Nat) : Int) + (-1) = ((m : Nat) : Int) by omega]
            refine AW_iinc (lv' := [_, _, _, _, _]) dX7_layPlan_163 rfl (by decide) rfl ?_
            refine AW_goto (tgt := 56) dX7_layPlan_166 (by decide) ?_
            refine AW_iload_n dX7_layPlan_56 rfl ?_
            refine AW_sipush dX7_layPlan_57 (by decide) ?_
            refine AW_icmp_ge 169 dX7_layPlan_60 (by decide) (by omega) (by omega) (fun h60 => ?_) (fun h60 => ?_)
            · exact hNext _ _ _ hPL2 _ _
            · refine AW_aload_n dX7_layPlan_63 rfl ?_
              refine AW_get dX7_layPlan_64 fX7_44 rfl rfl ?_
              refine AW_iload_n dX7_layPlan_67 rfl ?_
              refine AW_ialdN (j := k) dX7_layPlan_68 rfl (Nat.le_of_ble_eq_true rfl) (by omega) (by omega) ?_
              rw [r82, show rup (σ.1 82) k (t : Int) k = (t : Int) from if_pos rfl]
              refine AW_if_ge 169 dX7_layPlan_69 (by decide) (by omega) (fun _ => ?_) (fun h => absurd (by omega) h)
              exact hNext _ _ _ hPL2 _ _)
theorem l_layPlan7k {X : Row} {n : Nat} {σ0 : am_S} {Q : Option am_V → am_S → Prop} (hQ : ∀ (σ : am_S) (pl : Nat → Option Sl) (L : Nat), PL X n σ0 σ n pl L → Q none σ) : ∀ k : Nat, k ≤ n → ∀ (σ : am_S) (pl : Nat → Option Sl) (L : Nat), PL X n σ0 σ k pl L → ∀ x y : Option am_V, AW am_tab mX7_layPlan 26 [some (vR 70), some (vI (L : Nat)), some (vI (k : Nat)), x, y] [] σ Q :=
  up_loop (fun k hk0 ih σ pl L hPL x y => by
    have hn := hPL.2.1.2.2.2.2
    refine AW_iload_n dX7_layPlan_26 rfl ?_
    refine AW_aload_n dX7_layPlan_27 rfl ?_
    refine AW_get dX7_layPlan_28 fX7_7 rfl rfl ?_
    refine AW_sipush dX7_layPlan_31 (by decide) ?_
    refine AW_ialdN (j := 6423) dX7_layPlan_34 rfl (Nat.le_of_ble_eq_true rfl) (by omega) (by omega) ?_
    rw [hPL.2.1.2.2.2.1]
    refine AW_icmp_ge 175 dX7_layPlan_35 (by decide) (by omega) (by omega) (fun h35 => ?_) (fun h35 => ?_)
    · have e : k = n := by omega
      subst e
      refine AW_vret dX7_layPlan_175 rfl ?_
      exact hQ σ pl L hPL
    · refine AW_aload_n dX7_layPlan_38 rfl ?_
      refine AW_get dX7_layPlan_39 fX7_44 rfl rfl ?_
      refine AW_iload_n dX7_layPlan_42 rfl ?_
      refine AW_bipush dX7_layPlan_43 (by decide) ?_
      refine AW_iastN (j := k) dX7_layPlan_45 rfl (Nat.le_of_ble_eq_true rfl) (by omega) (by omega) ?_
      refine AW_aload_n dX7_layPlan_46 rfl ?_
      refine AW_get dX7_layPlan_47 fX7_47 rfl rfl ?_
      refine AW_iload_n dX7_layPlan_50 rfl ?_
      refine AW_bipush dX7_layPlan_51 (by decide) ?_
      refine AW_iastN (j := k) dX7_layPlan_53 rfl (Nat.le_of_ble_eq_true rfl) (by omega) (by omega) ?_
      refine AW_iconst dX7_layPlan_54 ?_
      refine AW_istore_n (i := 3) (lv' := [_, _, _, _, _]) dX7_layPlan_55 rfl (by decide) (Nat.le_of_ble_eq_true rfl) rfl ?_
      have hPL2 : PL X n σ0 (am_up (am_up σ 82 k (-6)) 83 k (-6)) k pl L := by
        refine hPL.move ((hPL.1.up (by decide)).up (by decide)) ?_ ?_ (fun c _ => by rw [am_up_other (by decide), am_up_other (by decide)]) (fun j hj => ?_) ?_
        · unfold Gok
          rw [am_up_other (by decide), am_up_other (by decide), am_up_other (by decide), am_up_other (by decide), am_up_other (by decide), am_up_other (by decide), am_up_other (by decide), am_up_other (by decide)]
          exact hPL.2.1
        · rw [am_up_other (by decide), am_up_other (by decide)]; exact hPL.2.2.1
        · rw [am_up_other (a := 83) (a' := 82) (by decide), am_up_same, am_up_same, am_up_other (by decide)]
          simp only [rup]
          rw [if_neg (by omega), if_neg (by omega)]
          exact ⟨rfl, rfl⟩
        · rw [am_up_other (by decide), am_up_other (by decide)]; exact hPL.2.2.2.2.2.2.2.2
      refine l_layPlan7t (by omega) (fun σ2 pl2 L2 hP2 x2 y2 => ?_) 0 (by omega) _ hPL2 ⟨by rw [am_up_other (by decide), am_up_same]; exact if_pos rfl, by rw [am_up_same]; exact if_pos rfl⟩ (fun s _ _ h => absurd h (by omega)) _
      refine AW_iinc (lv' := [_, _, _, _, _]) dX7_layPlan_169 rfl (by decide) rfl ?_
      refine AW_goto (tgt := 26) dX7_layPlan_172 (by decide) ?_
      exact ih (by omega) σ2 pl2 L2 hP2 _ _)
/-- what layPlan leaves: THE PLAN in rows 82, 83, how many in field 13 -/
def PlanIs (X : Row) (n : Nat) (σ : am_S) (pl : Nat → Option Sl) : Prop := PlanSpec (gA X (-6)) n pl ∧ (∀ k, k < n → wbR (σ.1 82) (σ.1 83) k (pl k)) ∧ ∃ m : Nat, σ.1 70 13 = m ∧ numX X (-6) n m
theorem c_layPlan7 {σ : am_S} (hS : WS (σ.1 71)) (hT : WT (σ.1 71)) (hA : WA (σ.1 71)) {n : Nat} (hmany : σ.1 71 6423 = (n : Nat)) : Runs am_tab mX7_layPlan [vR 70] σ (QV (fun σ' => Eqx [70, 74, 75, 76, 77, 78, 79, 80, 81, 82, 83] σ σ' ∧ ∃ pl, PlanIs (σ.1 71) n σ' pl)) := by
  refine Runs.of (by decide) rfl (by simp) (Nat.le_of_ble_eq_true rfl) ?_
  show AW am_tab mX7_layPlan 0 [some (vR 70), none, none, none, none] [] σ _
  have hn : n ≤ 20 := by have := hT.1; omega
  refine AW_aload_n dX7_layPlan_0 rfl ?_
  refine AW_bipush dX7_layPlan_1 (by decide) ?_
  refine AW_cVV1 dX7_layPlan_3 kX7_105 (am_fit_b rfl) rfl rfl (Nat.le_of_ble_eq_true rfl) (c_layArms7 hS hT hA (by omega)) (fun σ' hq => ?_)
  replace hq := hq.symm
  subst hq
  refine AW_aload_n dX7_layPlan_6 rfl ?_
  refine AW_cVV0 dX7_layPlan_7 kX7_109 (am_fit_b rfl) rfl rfl (Nat.le_of_ble_eq_true rfl) (c_clear7) (fun σ' hq => ?_)
  replace hq := hq.symm
  subst hq
  have hcl := clS_ok (w := -6) hmany hn
  refine AW_aload_n dX7_layPlan_10 rfl ?_
  refine AW_aload_n dX7_layPlan_11 rfl ?_
  refine AW_iconst dX7_layPlan_12 ?_
  refine AW_cVI1 dX7_layPlan_13 kX7_112 (am_fit_b rfl) rfl rfl (Nat.le_of_ble_eq_true rfl) (c_most7 (σ0 := clS σ (-6)) (n := n) (fr := 0) hn hcl.1.hG hcl.1.2.2.1 hcl.1.2.1 hcl.1.2.2.2.1 (by omega)) (fun z σ' hq => ?_)
  obtain ⟨m, rfl, h1, h2⟩ := hq
  have hmax := hcl.1.most (F := f0) h2 (bx_P_0 hcl.2.1 hn) (fun s hs => ⟨fun h => h (hcl.2.2.1 _ (enc_lt hs)), fun h => h.elim⟩)
  refine AW_put dX7_layPlan_16 pX7_115 rfl rfl rfl rfl ?_
  refine AW_aload_n dX7_layPlan_19 rfl ?_
  refine AW_get dX7_layPlan_20 fX7_115 rfl rfl ?_
  refine AW_istore_n (i := 1) (lv' := [_, _, _, _, _]) dX7_layPlan_23 rfl (by decide) (Nat.le_of_ble_eq_true rfl) rfl ?_
  refine AW_iconst dX7_layPlan_24 ?_
  refine AW_istore_n (i := 2) (lv' := [_, _, _, _, _]) dX7_layPlan_25 rfl (by decide) (Nat.le_of_ble_eq_true rfl) rfl ?_
  have e13 : (am_up σ' 70 13 m).1 70 13 = m := by rw [am_up_same]; exact if_pos rfl
  rw [e13]
  have hE2 : Eqx [70, 74, 75, 76, 77, 78, 79, 80, 81, 82, 83] (am_up σ' 70 13 m) (am_up σ' 70 13 m) := Eqx.rf
  have hF0 : Fof (fun _ => (none : Option Sl)) 0 = f0 := by
    funext x
    apply propext
    exact ⟨fun ⟨j, hj, _⟩ => absurd hj (by omega), fun h => h.elim⟩
  have hPL : PL (σ.1 71) n (am_up σ' 70 13 m) (am_up σ' 70 13 m) 0 (fun _ => none) m := by
    refine ⟨hE2, ?_, ?_, fun c hc => Or.inl ⟨?_, fun ⟨j, hj, _⟩ => by omega⟩, by rw [hF0]; exact hmax, fun j hj => by omega, fun j hj => by omega, fun _ _ => rfl, rfl⟩
    · unfold Gok
      rw [am_up_other (by decide), am_up_other (by decide), am_up_other (by decide), am_up_other (by decide)]
      exact hcl.1.kept h1
    · rw [am_up_other (by decide), h1.1 78 (by decide)]; exact hcl.2.1
    · rw [am_up_other (by decide), h1.1 77 (by decide)]; exact hcl.2.2.1 c hc
  refine l_layPlan7k (fun σ2 pl L hP => ⟨rfl, ?_, pl, ?_⟩) 0 (by omega) _ _ _ hPL _ _
  · exact (((hcl.2.2.2.mono (by decide)).tr (h1.mono (by decide))).up (by decide)).tr hP.1
  · exact ⟨fun k hk => hP.2.2.2.2.2.2.1 k hk, hP.2.2.2.2.2.1, m, by rw [hP.2.2.2.2.2.2.2.2, e13], hmax⟩
