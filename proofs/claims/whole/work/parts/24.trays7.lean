/-! ===== TRAYS ===== -/
theorem td4 (s : Nat) : (s : Int).tdiv 4 = ((s / 4 : Nat) : Int) := by
  rw [Int.tdiv_eq_ediv_of_nonneg (by omega)]
  omega
theorem tm4 (s : Nat) : (s : Int).tmod 4 = ((s % 4 : Nat) : Int) := by
  rw [Int.tmod_eq_emod_of_nonneg (by omega)]
  omega
def bestP (P : Row) (base : Nat) : Nat → Nat
  | 0 => 0
  | p + 1 => if P (base + p) < P (base + bestP P base p) then p else bestP P base p
theorem bestP_1 {P : Row} {base : Nat} : bestP P base 1 = 0 := by
  simp [bestP]
theorem bestP_lt {P : Row} {base : Nat} : ∀ p, 0 < p → bestP P base p < p := by
  intro p
  induction p with
  | zero => intro h; omega
  | succ p ih =>
    intro _
    simp only [bestP]
    split
    · omega
    · rcases Nat.eq_zero_or_pos p with z | z
      · subst z; exact Nat.zero_lt_one
      · have := ih z; omega
def kdX (X : Row) (k : Nat) : Nat := (X (361 + k)).toNat
def shX (X : Row) : Nat := (X 6422).toNat
def layK (X : Row) (k : Nat) (T : Row × Row) : Row × Row := (rup T.1 (6 * kdX X k + bestP T.1 (6 * kdX X k) (shX X)) (T.1 (6 * kdX X k + bestP T.1 (6 * kdX X k) (shX X)) + 1), rup T.2 k (bestP T.1 (6 * kdX X k) (shX X)))
def whoAt (pl : Nat → Option Sl) (s : Nat) : Nat → Option Nat
  | 0 => none
  | k + 1 => if pl k = some (s / 4, s % 4) then some k else whoAt pl s k
theorem whoAt_some {pl : Nat → Option Sl} {s j : Nat} : ∀ n, whoAt pl s n = some j → j < n ∧ pl j = some (s / 4, s % 4) := by
  intro n
  induction n with
  | zero => intro h; cases h
  | succ n ih =>
    intro h
    simp only [whoAt] at h
    split at h
    · rename_i hp
      cases h
      exact ⟨by omega, hp⟩
    · obtain ⟨a, b⟩ := ih h
      exact ⟨by omega, b⟩
def trI (X : Row) (pl : Nat → Option Sl) (s : Nat) (T : Row × Row) (n : Nat) : Row × Row := match whoAt pl s n with
  | some j => layK X j T
  | none => T
def trS (X : Row) (pl : Nat → Option Sl) (n : Nat) : Nat → Row × Row
  | 0 => (fun _ => 0, fun _ => -6)
  | s + 1 => trI X pl s (trS X pl n s) n
theorem layK_b {X : Row} {k : Nat} {T : Row × Row} {b : Int} (hb : 0 ≤ b) (h : ∀ p, 0 ≤ T.1 p ∧ T.1 p ≤ b) : ∀ p, 0 ≤ (layK X k T).1 p ∧ (layK X k T).1 p ≤ b + 1 := by
  intro p
  simp only [layK, rup]
  split
  · have := h (6 * kdX X k + bestP T.1 (6 * kdX X k) (shX X)); omega
  · have := h p; omega
theorem trI_b {X : Row} {pl : Nat → Option Sl} {s n : Nat} {T : Row × Row} {b : Int} (hb : 0 ≤ b) (h : ∀ p, 0 ≤ T.1 p ∧ T.1 p ≤ b) : ∀ p, 0 ≤ (trI X pl s T n).1 p ∧ (trI X pl s T n).1 p ≤ b + 1 := by
  unfold trI
  split
  · exact layK_b hb h
  · intro p; have := h p; omega
theorem trS_b {X : Row} {pl : Nat → Option Sl} {n : Nat} : ∀ s p, 0 ≤ (trS X pl n s).1 p ∧ (trS X pl n s).1 p ≤ (s : Int) := by
  intro s
  induction s with
  | zero => intro p; exact ⟨Int.le_refl 0, Int.le_refl 0⟩
  | succ s ih => intro p; have := trI_b (X := X) (pl := pl) (s := s) (n := n) (b := (s : Int)) (by omega) ih p; simp only [trS]; omega
/-- rows 84, 85 hold the trays T -/
def TRr (P O : Row) (T : Row × Row) : Prop := (∀ p, p < 18 → P p = T.1 p) ∧ ∀ k, k < 20 → O k = T.2 k
theorem TRr.lay {P O : Row} {T : Row × Row} {X : Row} {k : Nat} (h : TRr P O T) : TRr (rup P (6 * kdX X k + bestP T.1 (6 * kdX X k) (shX X)) (T.1 (6 * kdX X k + bestP T.1 (6 * kdX X k) (shX X)) + 1)) (rup O k (bestP T.1 (6 * kdX X k) (shX X))) (layK X k T) := by
  refine ⟨fun p hp => ?_, fun j hj => ?_⟩
  · simp only [layK, rup]
    split
    · rfl
    · exact h.1 p hp
  · simp only [layK, rup]
    split
    · rfl
    · exact h.2 j hj
theorem l_layTrays7p {X : Row} {s k : Nat} {σ : am_S} {T : Row × Row} (hN : WN X) (hkd : kdX X k ≤ 2) (hs : s < 1204) (hX2 : σ.1 71 = X) (hTR : TRr (σ.1 84) (σ.1 85) T) (hTb : ∀ p, 0 ≤ T.1 p ∧ T.1 p ≤ 1205) {x2 x3 : Option am_V} {Q : Option am_V → am_S → Prop} (hk2 : AW am_tab mX7_layTrays 171 [some (vR 70), some (vI (s : Nat)), x2, x3, some (vI (k : Nat)), some (vI (6 * kdX X k : Nat)), some (vI (bestP T.1 (6 * kdX X k) (shX X) : Nat)), some (vI (shX X : Nat))] [] σ Q) : ∀ p : Nat, p ≤ shX X → 0 < p → AW am_tab mX7_layTrays 120 [some (vR 70), some (vI (s : Nat)), x2, x3, some (vI (k : Nat)), some (vI (6 * kdX X k : Nat)), some (vI (bestP T.1 (6 * kdX X k) p : Nat)), some (vI (p : Nat))] [] σ Q :=
  up_loop (fun p hp0 ih hp1 => by
    have hsh := hN.2
    have hsX : (shX X : Int) = X 6422 := by unfold shX; omega
    have hbl := bestP_lt (P := T.1) (base := 6 * kdX X k) p hp1
    refine AW_iload dX7_layTrays_120 rfl ?_
    refine AW_aload_n dX7_layTrays_122 rfl ?_
    refine AW_get dX7_layTrays_123 fX7_7 rfl rfl ?_
    refine AW_sipush dX7_layTrays_126 (by decide) ?_
    refine AW_ialdN (j := 6422) dX7_layTrays_129 rfl (Nat.le_of_ble_eq_true rfl) (by omega) (by omega) ?_
    rw [hX2, ← hsX]
    refine AW_icmp_ge 171 dX7_layTrays_130 (by decide) (by omega) (by omega) (fun h130 => ?_) (fun h130 => ?_)
    · have e : p = shX X := by omega
      subst e
      exact hk2
    · refine AW_aload_n dX7_layTrays_133 rfl ?_
      refine AW_get dX7_layTrays_134 fX7_50 rfl rfl ?_
      refine AW_iload dX7_layTrays_137 rfl ?_
      refine AW_iload dX7_layTrays_139 rfl ?_
      refine AW_iadd dX7_layTrays_141 ?_
      refine AW_ialdN (j := 6 * kdX X k + p) dX7_layTrays_142 rfl (Nat.le_of_ble_eq_true rfl) (by omega) (by omega) ?_
      rw [hTR.1 _ (by omega)]
      have hb1 := hTb (6 * kdX X k + p)
      refine AW_aload_n dX7_layTrays_143 rfl ?_
      refine AW_get dX7_layTrays_144 fX7_50 rfl rfl ?_
      refine AW_iload dX7_layTrays_147 rfl ?_
      refine AW_iload dX7_layTrays_149 rfl ?_
      refine AW_iadd dX7_layTrays_151 ?_
      refine AW_ialdN (j := 6 * kdX X k + bestP T.1 (6 * kdX X k) p) dX7_layTrays_152 rfl (Nat.le_of_ble_eq_true rfl) (by omega) (by omega) ?_
      rw [hTR.1 _ (by omega)]
      have hb2 := hTb (6 * kdX X k + bestP T.1 (6 * kdX X k) p)
      refine AW_icmp_ge 161 dX7_layTrays_153 (by decide) (by omega) (by omega) (fun h153 => ?_) (fun h153 => ?_)
      · refine AW_iload dX7_layTrays_161 rfl ?_
        refine AW_istore (lv' := [_, _, _, _, _, _, _, _]) dX7_layTrays_163 (by decide) (Nat.le_of_ble_eq_true rfl) rfl ?_
        refine AW_iinc (lv' := [_, _, _, _, _, _, _, _]) dX7_layTrays_165 rfl (by decide) rfl ?_
        refine AW_goto (tgt := 120) dX7_layTrays_168 (by decide) ?_
        have e : bestP T.1 (6 * kdX X k) (p + 1) = if T.1 (6 * kdX X k + p) < T.1 (6 * kdX X k + bestP T.1 (6 * kdX X k) p) then p else bestP T.1 (6 * kdX X k) p := rfl
        have h9 := ih (by omega) (by omega)
        first
        | (rw [if_pos (by omega)] at e; rw [e] at h9; exact h9)
        | (rw [if_neg (by omega)] at e; rw [e] at h9; exact h9)
      · refine AW_iload dX7_layTrays_156 rfl ?_
        refine AW_goto (tgt := 163) dX7_layTrays_158 (by decide) ?_
        refine AW_istore (lv' := [_, _, _, _, _, _, _, _]) dX7_layTrays_163 (by decide) (Nat.le_of_ble_eq_true rfl) rfl ?_
        refine AW_iinc (lv' := [_, _, _, _, _, _, _, _]) dX7_layTrays_165 rfl (by decide) rfl ?_
        refine AW_goto (tgt := 120) dX7_layTrays_168 (by decide) ?_
        have e : bestP T.1 (6 * kdX X k) (p + 1) = if T.1 (6 * kdX X k + p) < T.1 (6 * kdX X k + bestP T.1 (6 * kdX X k) p) then p else bestP T.1 (6 * kdX X k) p := rfl
        have h9 := ih (by omega) (by omega)
        first
        | (rw [if_pos (by omega)] at e; rw [e] at h9; exact h9)
        | (rw [if_neg (by omega)] at e; rw [e] at h9; exact h9))
set_option maxHeartbeats 4000000 in
theorem l_layTrays7k {X : Row} {n : Nat} {pl : Nat → Option Sl} {σ0 : am_S} (hP : PlanSpec (gA X (-6)) n pl) (hR : ∀ k, k < n → wbR (σ0.1 82) (σ0.1 83) k (pl k)) (hX : σ0.1 71 = X) (hmany : X 6423 = (n : Nat)) (hn : n ≤ 20) (hT : WT X) (hN : WN X) {s : Nat} (hs : s < 1204) {T : Row × Row} (hTb : ∀ p, 0 ≤ T.1 p ∧ T.1 p ≤ 1205) {Q : Option am_V → am_S → Prop} (hk2 : ∀ σ, Eqx [84, 85] σ0 σ → TRr (σ.1 84) (σ.1 85) (trI X pl s T n) → ∀ x y z : Option am_V, AW am_tab mX7_layTrays 200 [some (vR 70), some (vI (s : Nat)), some (vI (s / 4 : Nat)), some (vI (s % 4 : Nat)), some (vI (n : Nat)), x, y, z] [] σ Q) : ∀ k : Nat, k ≤ n → ∀ σ : am_S, Eqx [84, 85] σ0 σ → TRr (σ.1 84) (σ.1 85) (trI X pl s T k) → ∀ x y z : Option am_V, AW am_tab mX7_layTrays 63 [some (vR 70), some (vI (s : Nat)), some (vI (s / 4 : Nat)), some (vI (s % 4 : Nat)), some (vI (k : Nat)), x, y, z] [] σ Q :=
  up_loop (fun k hk0 ih σ hE hTR x y z => by
    have rX : σ.1 71 = X := (hE.1 71 (by decide)).trans hX
    refine AW_iload dX7_layTrays_63 rfl ?_
    refine AW_aload_n dX7_layTrays_65 rfl ?_
    refine AW_get dX7_layTrays_66 fX7_7 rfl rfl ?_
    refine AW_sipush dX7_layTrays_69 (by decide) ?_
    refine AW_ialdN (j := 6423) dX7_layTrays_72 rfl (Nat.le_of_ble_eq_true rfl) (by omega) (by omega) ?_
    rw [rX, hmany]
    refine AW_icmp_ge 200 dX7_layTrays_73 (by decide) (by omega) (by omega) (fun h73 => ?_) (fun h73 => ?_)
    · have e : k = n := by omega
      subst e
      exact hk2 σ hE hTR _ _ _
    · refine AW_aload_n dX7_layTrays_76 rfl ?_
      refine AW_get dX7_layTrays_77 fX7_44 rfl rfl ?_
      refine AW_iload dX7_layTrays_80 rfl ?_
      refine AW_ialdN (j := k) dX7_layTrays_82 rfl (Nat.le_of_ble_eq_true rfl) (by omega) (by omega) ?_
      have hb := hP.b (k := k) (by omega)
      have hri := wbR_at (hR k (by omega))
      have r82 : σ.1 82 = σ0.1 82 := hE.1 82 (by decide)
      have r83 : σ.1 83 = σ0.1 83 := hE.1 83 (by decide)
      rw [r82, hri.1]
      refine AW_iload_n dX7_layTrays_83 rfl ?_
      refine AW_icmp_ne 194 dX7_layTrays_84 (by decide) (by omega) (by omega) (fun h84 => ?_) (fun h84 => ?_)
      · refine AW_iinc (lv' := [_, _, _, _, _, _, _, _]) dX7_layTrays_194 rfl (by decide) rfl ?_
        refine AW_goto (tgt := 63) dX7_layTrays_197 (by decide) ?_
        have e1 : trI X pl s T (k + 1) = trI X pl s T k := by
          unfold trI
          have : whoAt pl s (k + 1) = whoAt pl s k := if_neg (fun h => by
            have a : pTick pl k = ((s / 4 : Nat) : Int) := by unfold pTick; rw [h]
            have b : pArm pl k = ((s % 4 : Nat) : Int) := by unfold pArm; rw [h]
            omega)
          rw [this]
        exact ih (by omega) σ hE (by rw [e1]; exact hTR) _ _ _
      · refine AW_aload_n dX7_layTrays_87 rfl ?_
        refine AW_get dX7_layTrays_88 fX7_47 rfl rfl ?_
        refine AW_iload dX7_layTrays_91 rfl ?_
        refine AW_ialdN (j := k) dX7_layTrays_93 rfl (Nat.le_of_ble_eq_true rfl) (by omega) (by omega) ?_
        rw [r83, hri.2]
        refine AW_iload_n dX7_layTrays_94 rfl ?_
        refine AW_icmp_ne 194 dX7_layTrays_95 (by decide) (by omega) (by omega) (fun h95 => ?_) (fun h95 => ?_)
        · refine AW_iinc (lv' := [_, _, _, _, _, _, _, _]) dX7_layTrays_194 rfl (by decide) rfl ?_
          refine AW_goto (tgt := 63) dX7_layTrays_197 (by decide) ?_
          have e1 : trI X pl s T (k + 1) = trI X pl s T k := by
            unfold trI
            have : whoAt pl s (k + 1) = whoAt pl s k := if_neg (fun h => by
              have a : pTick pl k = ((s / 4 : Nat) : Int) := by unfold pTick; rw [h]
              have b : pArm pl k = ((s % 4 : Nat) : Int) := by unfold pArm; rw [h]
              omega)
            rw [this]
          exact ih (by omega) σ hE (by rw [e1]; exact hTR) _ _ _
        · have hpk : pl k = some (s / 4, s % 4) := by
            cases h : pl k with
            | none =>
              have a : pTick pl k = -6 := by unfold pTick; rw [h]
              omega
            | some x =>
              have a : pTick pl k = x.1 := by unfold pTick; rw [h]
              have b : pArm pl k = x.2 := by unfold pArm; rw [h]
              obtain ⟨x1, x2⟩ := x
              dsimp only at a b
              rw [show x1 = s / 4 by omega, show x2 = s % 4 by omega]
          have hwn : whoAt pl s k = none := by
            cases h : whoAt pl s k with
            | none => rfl
            | some j =>
              obtain ⟨a, b⟩ := whoAt_some _ h
              have := hP.inj (by omega) (by omega) b hpk
              omega
          have hTk : trI X pl s T k = T := by unfold trI; rw [hwn]
          have hTk1 : trI X pl s T (k + 1) = layK X k T := by
            unfold trI
            rw [show whoAt pl s (k + 1) = some k from if_pos hpk]
          rw [hTk] at hTR
          have hkk := (hT.2 k (by omega)).2.2.2.1
          have hkd : kdX X k ≤ 2 := by unfold kdX; omega
          have hkI : X (361 + k) = (kdX X k : Nat) := by unfold kdX; omega
          have hsh := hN.2
          have hsX : (shX X : Int) = X 6422 := by unfold shX; omega
          refine AW_bipush dX7_layTrays_98 (by decide) ?_
          refine AW_aload_n dX7_layTrays_100 rfl ?_
          refine AW_get dX7_layTrays_101 fX7_7 rfl rfl ?_
          refine AW_sipush dX7_layTrays_104 (by decide) ?_
          refine AW_iload dX7_layTrays_107 rfl ?_
          refine AW_iadd dX7_layTrays_109 ?_
          refine AW_ialdN (j := 361 + k) dX7_layTrays_110 rfl (Nat.le_of_ble_eq_true rfl) (by omega) (by omega) ?_
          rw [rX, hkI]
          refine AW_imul dX7_layTrays_111 ?_
          refine AW_istore (lv' := [_, _, _, _, _, _, _, _]) dX7_layTrays_112 (by decide) (Nat.le_of_ble_eq_true rfl) rfl ?_
          refine AW_iconst dX7_layTrays_114 ?_
          refine AW_istore (lv' := [_, _, _, _, _, _, _, _]) dX7_layTrays_115 (by decide) (Nat.le_of_ble_eq_true rfl) rfl ?_
          refine AW_iconst dX7_layTrays_117 ?_
          refine AW_istore (lv' := [_, _, _, _, _, _, _, _]) dX7_layTrays_118 (by decide) (Nat.le_of_ble_eq_true rfl) rfl ?_
          rw [show (6 : Int) * ((kdX X k : Nat) : Int) = ((6 * kdX X k : Nat) : Int) by omega]
          have hlp := l_layTrays7p (s := s) (x2 := some (vI (s / 4 : Nat))) (x3 := some (vI (s % 4 : Nat))) hN hkd (by omega) rX hTR hTb (Q := Q) (k := k) (X := X) ?_ 1 (by omega) (by omega)
          · rw [bestP_1] at hlp
            exact hlp
          · have hbl := bestP_lt (P := T.1) (base := 6 * kdX X k) (shX X) (by omega)
            refine AW_aload_n dX7_layTrays_171 rfl ?_
            refine AW_get dX7_layTrays_172 fX7_50 rfl rfl ?_
            refine AW_iload dX7_layTrays_175 rfl ?_
            refine AW_iload dX7_layTrays_177 rfl ?_
            refine AW_iadd dX7_layTrays_179 ?_
            refine AW_dup2 dX7_layTrays_180 ?_
            refine AW_ialdN (j := 6 * kdX X k + bestP T.1 (6 * kdX X k) (shX X)) dX7_layTrays_181 rfl (Nat.le_of_ble_eq_true rfl) (by omega) (by omega) ?_
            rw [hTR.1 _ (by omega)]
            refine AW_iconst dX7_layTrays_182 ?_
            refine AW_iadd dX7_layTrays_183 ?_
            refine AW_iastN (j := 6 * kdX X k + bestP T.1 (6 * kdX X k) (shX X)) dX7_layTrays_184 rfl (Nat.le_of_ble_eq_true rfl) (by omega) (by omega) ?_
            refine AW_aload_n dX7_layTrays_185 rfl ?_
            refine AW_get dX7_layTrays_186 fX7_53 rfl rfl ?_
            refine AW_iload dX7_layTrays_189 rfl ?_
            refine AW_iload dX7_layTrays_191 rfl ?_
            refine AW_iastN (j := k) dX7_layTrays_193 rfl (Nat.le_of_ble_eq_true rfl) (by omega) (by omega) ?_
            refine AW_iinc (lv' := [_, _, _, _, _, _, _, _]) dX7_layTrays_194 rfl (by decide) rfl ?_
            refine AW_goto (tgt := 63) dX7_layTrays_197 (by decide) ?_
            refine ih (by omega) _ ((hE.up (by decide)).up (by decide)) ?_ _ _ _
            rw [hTk1, am_up_other (a := 85) (a' := 84) (by decide), am_up_same, am_up_same, am_up_other (by decide)]
            exact hTR.lay)
theorem l_layTrays7s {X : Row} {n : Nat} {pl : Nat → Option Sl} {σ0 : am_S} (hP : PlanSpec (gA X (-6)) n pl) (hR : ∀ k, k < n → wbR (σ0.1 82) (σ0.1 83) k (pl k)) (hX : σ0.1 71 = X) (hmany : X 6423 = (n : Nat)) (hn : n ≤ 20) (hT : WT X) (hN : WN X) {Q : Option am_V → am_S → Prop} (hQ : ∀ σ, Eqx [84, 85] σ0 σ → TRr (σ.1 84) (σ.1 85) (trS X pl n 1204) → Q none σ) : ∀ s : Nat, s ≤ 1204 → ∀ σ : am_S, Eqx [84, 85] σ0 σ → TRr (σ.1 84) (σ.1 85) (trS X pl n s) → ∀ a b c x y z : Option am_V, AW am_tab mX7_layTrays 45 [some (vR 70), some (vI (s : Nat)), a, b, c, x, y, z] [] σ Q :=
  up_loop (fun s hs0 ih σ hE hTR a b c x y z => by
    refine AW_iload_n dX7_layTrays_45 rfl ?_
    refine AW_sipush dX7_layTrays_46 (by decide) ?_
    refine AW_icmp_ge 206 dX7_layTrays_49 (by decide) (by omega) (by omega) (fun h49 => ?_) (fun h49 => ?_)
    · have e : s = 1204 := by omega
      subst e
      refine AW_vret dX7_layTrays_206 rfl ?_
      exact hQ σ hE hTR
    · refine AW_iload_n dX7_layTrays_52 rfl ?_
      refine AW_iconst dX7_layTrays_53 ?_
      refine AW_idiv dX7_layTrays_54 (by omega) (by omega) (by decide) ?_
      refine AW_istore_n (i := 2) (lv' := [_, _, _, _, _, _, _, _]) dX7_layTrays_55 rfl (by decide) (Nat.le_of_ble_eq_true rfl) rfl ?_
      refine AW_iload_n dX7_layTrays_56 rfl ?_
      refine AW_iconst dX7_layTrays_57 ?_
      refine AW_irem dX7_layTrays_58 (by omega) (by omega) (by decide) ?_
      refine AW_istore_n (i := 3) (lv' := [_, _, _, _, _, _, _, _]) dX7_layTrays_59 rfl (by decide) (Nat.le_of_ble_eq_true rfl) rfl ?_
      refine AW_iconst dX7_layTrays_60 ?_
      refine AW_istore (lv' := [_, _, _, _, _, _, _, _]) dX7_layTrays_61 (by decide) (Nat.le_of_ble_eq_true rfl) rfl ?_
      rw [td4, tm4]
      refine l_layTrays7k hP hR hX hmany hn hT hN (s := s) (by omega) (T := trS X pl n s) (fun p => by have := trS_b (X := X) (pl := pl) (n := n) s p; omega) (fun σ2 hE2 hT2 x2 y2 z2 => ?_) 0 (by omega) σ hE hTR _ _ _
      refine AW_iinc (lv' := [_, _, _, _, _, _, _, _]) dX7_layTrays_200 rfl (by decide) rfl ?_
      refine AW_goto (tgt := 45) dX7_layTrays_203 (by decide) ?_
      exact ih (by omega) σ2 hE2 hT2 _ _ _ _ _ _)
theorem l_layTrays7a {σ : am_S} {Q : Option am_V → am_S → Prop} (hk2 : AW am_tab mX7_layTrays 21 [some (vR 70), some (vI (18 : Nat)), none, none, none, none, none, none] [] (am_row σ 84 18 (fun _ => 0)) Q) : ∀ i : Nat, i ≤ 18 → AW am_tab mX7_layTrays 2 [some (vR 70), some (vI i), none, none, none, none, none, none] [] (am_row σ 84 i (fun _ => 0)) Q :=
  up_loop (fun i hi ih => by
    refine AW_iload_n dX7_layTrays_2 rfl ?_
    refine AW_bipush dX7_layTrays_3 (by decide) ?_
    refine AW_icmp_ge 21 dX7_layTrays_5 (by decide) (by omega) (by omega) (fun h5 => ?_) (fun h5 => ?_)
    · have e : i = 18 := by omega
      subst e
      exact hk2
    · refine AW_aload_n dX7_layTrays_8 rfl ?_
      refine AW_get dX7_layTrays_9 fX7_50 rfl rfl ?_
      refine AW_iload_n dX7_layTrays_12 rfl ?_
      refine AW_iconst dX7_layTrays_13 ?_
      refine AW_iastN (j := i) dX7_layTrays_14 rfl (Nat.le_of_ble_eq_true rfl) (by omega) (by omega) ?_
      refine AW_iinc (lv' := [_, _, _, _, _, _, _, _]) dX7_layTrays_15 rfl (by decide) rfl ?_
      refine AW_goto (tgt := 2) dX7_layTrays_18 (by decide) ?_
      rw [am_row_s (g := fun _ => 0) rfl]
      exact ih (by omega))
theorem l_layTrays7b {σ : am_S} {Q : Option am_V → am_S → Prop} (hk2 : AW am_tab mX7_layTrays 43 [some (vR 70), some (vI (20 : Nat)), none, none, none, none, none, none] [] (am_row σ 85 20 (fun _ => -6)) Q) : ∀ i : Nat, i ≤ 20 → AW am_tab mX7_layTrays 23 [some (vR 70), some (vI i), none, none, none, none, none, none] [] (am_row σ 85 i (fun _ => -6)) Q :=
  up_loop (fun i hi ih => by
    refine AW_iload_n dX7_layTrays_23 rfl ?_
    refine AW_bipush dX7_layTrays_24 (by decide) ?_
    refine AW_icmp_ge 43 dX7_layTrays_26 (by decide) (by omega) (by omega) (fun h26 => ?_) (fun h26 => ?_)
    · have e : i = 20 := by omega
      subst e
      exact hk2
    · refine AW_aload_n dX7_layTrays_29 rfl ?_
      refine AW_get dX7_layTrays_30 fX7_53 rfl rfl ?_
      refine AW_iload_n dX7_layTrays_33 rfl ?_
      refine AW_bipush dX7_layTrays_34 (by decide) ?_
      refine AW_iastN (j := i) dX7_layTrays_36 rfl (Nat.le_of_ble_eq_true rfl) (by omega) (by omega) ?_
      refine AW_iinc (lv' := [_, _, _, _, _, _, _, _]) dX7_layTrays_37 rfl (by decide) rfl ?_
      refine AW_goto (tgt := 23) dX7_layTrays_40 (by decide) ?_
      rw [am_row_s (g := fun _ => -6) rfl]
      exact ih (by omega))
theorem c_layTrays7 {X : Row} {n : Nat} {pl : Nat → Option Sl} {σ0 : am_S} (hP : PlanSpec (gA X (-6)) n pl) (hR : ∀ k, k < n → wbR (σ0.1 82) (σ0.1 83) k (pl k)) (hX : σ0.1 71 = X) (hmany : X 6423 = (n : Nat)) (hn : n ≤ 20) (hT : WT X) (hN : WN X) : Runs am_tab mX7_layTrays [vR 70] σ0 (QV (fun σ' => Eqx [84, 85] σ0 σ' ∧ TRr (σ'.1 84) (σ'.1 85) (trS X pl n 1204))) := by
  refine Runs.of (by decide) rfl (by simp) (Nat.le_of_ble_eq_true rfl) ?_
  show AW am_tab mX7_layTrays 0 [some (vR 70), none, none, none, none, none, none, none] [] σ0 _
  refine AW_iconst dX7_layTrays_0 ?_
  refine AW_istore_n (i := 1) (lv' := [_, _, _, _, _, _, _, _]) dX7_layTrays_1 rfl (by decide) (Nat.le_of_ble_eq_true rfl) rfl ?_
  suffices hs : AW am_tab mX7_layTrays 21 [some (vR 70), some (vI (18 : Nat)), none, none, none, none, none, none] [] (am_row σ0 84 18 (fun _ => 0)) _ by
    have h9 := l_layTrays7a hs 0 (by omega)
    rw [am_row_0] at h9
    exact h9
  refine AW_iconst dX7_layTrays_21 ?_
  refine AW_istore_n (i := 1) (lv' := [_, _, _, _, _, _, _, _]) dX7_layTrays_22 rfl (by decide) (Nat.le_of_ble_eq_true rfl) rfl ?_
  suffices hs : AW am_tab mX7_layTrays 43 [some (vR 70), some (vI (20 : Nat)), none, none, none, none, none, none] [] (am_row (am_row σ0 84 18 (fun _ => 0)) 85 20 (fun _ => -6)) _ by
    have h9 := l_layTrays7b hs 0 (by omega)
    rw [am_row_0] at h9
    exact h9
  refine AW_iconst dX7_layTrays_43 ?_
  refine AW_istore_n (i := 1) (lv' := [_, _, _, _, _, _, _, _]) dX7_layTrays_44 rfl (by decide) (Nat.le_of_ble_eq_true rfl) rfl ?_
  refine l_layTrays7s hP hR hX hmany hn hT hN (fun σ2 h1 h2 => ⟨rfl, h1, h2⟩) 0 (by omega) _ ((Eqx.rf.row (by decide)).row (by decide)) ⟨fun p hp => ?_, fun k hk => ?_⟩ _ _ _ _ _ _
  · rw [am_row_other (by decide), am_row_at hp]; rfl
  · rw [am_row_at hk]; rfl
