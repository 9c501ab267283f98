-- ===== BeltArmsModel() =====
def mp1 (t : Nat) : Row := fun j => if j < t then (if j = 0 then 2 else -6) else 0
def mp2 (a : Nat) : Row := fun j => if j < 301 then (if j = 0 then 2 else -6) else if 6401 ≤ j ∧ j < 6401 + a then 100 * ((j : Int) - 6401) + 100 else if 6405 ≤ j ∧ j < 6405 + a then 100 * ((j : Int) - 6405) + 160 else if 6409 ≤ j ∧ j < 6409 + a then 5 else if 6417 ≤ j ∧ j < 6417 + a then 15 else 0
def Xz : Row := rup (rup (mp2 4) 6421 3) 6422 2
theorem mp1_s {t : Nat} {x : Int} (h : x = if t = 0 then 2 else -6) : rup (mp1 t) t x = mp1 (t + 1) := by
  funext j
  unfold rup mp1
  by_cases h1 : j = t
  · rw [if_pos h1, if_pos (by omega), h, h1]
  · rw [if_neg h1]
    by_cases h2 : j < t
    · rw [if_pos h2, if_pos (show j < t + 1 by omega)]
    · rw [if_neg h2, if_neg (show ¬ j < t + 1 by omega)]
theorem mp12 : mp1 301 = mp2 0 := by
  funext j
  unfold mp1 mp2
  by_cases h : j < 301
  · rw [if_pos h, if_pos h]
  · rw [if_neg h, if_neg h, if_neg (by omega), if_neg (by omega), if_neg (by omega), if_neg (by omega)]
theorem mp2_s {a : Nat} (ha : a < 4) : rup (rup (rup (rup (mp2 a) (6401 + a) (100 * (a : Int) + 100)) (6405 + a) (100 * (a : Int) + 160)) (6409 + a) 5) (6417 + a) 15 = mp2 (a + 1) := by
  funext j
  unfold rup mp2
  by_cases h0 : j < 301
  · rw [if_neg (by omega), if_neg (by omega), if_neg (by omega), if_neg (by omega), if_pos h0, if_pos h0]
  · by_cases h1 : j = 6417 + a
    · rw [if_pos h1, if_neg h0, if_neg (by omega), if_neg (by omega), if_neg (by omega), if_pos (by omega)]
    · by_cases h2 : j = 6409 + a
      · rw [if_neg h1, if_pos h2, if_neg h0, if_neg (by omega), if_neg (by omega), if_pos (by omega)]
      · by_cases h3 : j = 6405 + a
        · rw [if_neg h1, if_neg h2, if_pos h3, if_neg h0, if_neg (by omega), if_pos (by omega)]
          omega
        · by_cases h4 : j = 6401 + a
          · rw [if_neg h1, if_neg h2, if_neg h3, if_pos h4, if_neg h0, if_pos (by omega)]
            omega
          · rw [if_neg h1, if_neg h2, if_neg h3, if_neg h4, if_neg h0, if_neg h0]
            by_cases k1 : 6401 ≤ j ∧ j < 6401 + a
            · rw [if_pos k1, if_pos (show 6401 ≤ j ∧ j < 6401 + (a + 1) by omega)]
            · rw [if_neg k1, if_neg (show ¬ (6401 ≤ j ∧ j < 6401 + (a + 1)) by omega)]
              by_cases k2 : 6405 ≤ j ∧ j < 6405 + a
              · rw [if_pos k2, if_pos (show 6405 ≤ j ∧ j < 6405 + (a + 1) by omega)]
              · rw [if_neg k2, if_neg (show ¬ (6405 ≤ j ∧ j < 6405 + (a + 1)) by omega)]
                by_cases k3 : 6409 ≤ j ∧ j < 6409 + a
                · rw [if_pos k3, if_pos (show 6409 ≤ j ∧ j < 6409 + (a + 1) by omega)]
                · rw [if_neg k3, if_neg (show ¬ (6409 ≤ j ∧ j < 6409 + (a + 1)) by omega)]
                  by_cases k4 : 6417 ≤ j ∧ j < 6417 + a
                  · rw [if_pos k4, if_pos (show 6417 ≤ j ∧ j < 6417 + (a + 1) by omega)]
                  · rw [if_neg k4, if_neg (show ¬ (6417 ≤ j ∧ j < 6417 + (a + 1)) by omega)]
theorem l_m1 {Y : ct_Y} {fin : va_W → Prop} {k n h0 q1 : Nat} {fs : List Value} {wr : va_W} (hfs : fs[0]? = some (.ref q1)) (hk2 : GW mX7_init Y fin k n 163 [(1, .int (Int32.ofInt ((301 : Nat) : Int))), (0, .ref h0)] [] ((h0, .inr (7, fs)) :: (q1, .inl (Y.2 0, 6424, .inl (fun j => Int32.ofInt ((mp1 301 : Row) j)))) :: wr : va_W)) : ∀ i : Nat, i ≤ 301 → GW mX7_init Y fin k n 132 [(1, .int (Int32.ofInt (i : Int))), (0, .ref h0)] [] ((h0, .inr (7, fs)) :: (q1, .inl (Y.2 0, 6424, .inl (fun j => Int32.ofInt ((mp1 i : Row) j)))) :: wr : va_W) :=
  up_loop (fun i hi ih => by
    refine GW_iload 0 dX7_init_132 rfl rfl ?_
    refine GW_sipush dX7_init_133 (by decide) ?_
    refine GW_icmp_ge 163 dX7_init_136 (by decide) (by omega) (by omega) (fun h => ?_) (fun h => ?_)
    · have e : i = 301 := by omega
      subst e
      exact hk2
    · refine GW_aload 1 dX7_init_139 rfl rfl ?_
      refine GW_get 0 dX7_init_140 fX7_7 rfl hfs ?_
      refine GW_iconst dX7_init_143 ?_
      refine GW_iload 0 dX7_init_144 rfl rfl ?_
      refine GW_iadd dX7_init_145 ?_
      refine GW_iload 0 dX7_init_146 rfl rfl ?_
      refine GW_if_ne 154 dX7_init_147 (by decide) (by omega) (fun h1 => ?_) (fun h1 => ?_)
      · refine GW_bipush dX7_init_154 (by decide) ?_
        refine GW_iast (i := i) 1 dX7_init_156 rfl (by omega) (by omega) (Nat.le_of_ble_eq_true rfl) ?_
        refine GW_eq (ws' := ((h0, .inr (7, fs)) :: (q1, .inl (Y.2 0, 6424, .inl (fun j => Int32.ofInt ((rup (mp1 i) i (-6) : Row) j)))) :: wr : va_W)) rfl ?_
        rw [mp1_s (by rw [if_neg (by omega)])]
        refine GW_iinc 0 dX7_init_157 rfl (Nat.le_of_ble_eq_true rfl) rfl ?_
        refine GW_goto (tgt := 132) dX7_init_160 (by decide) ?_
        exact ih (by omega)
      · refine GW_iconst dX7_init_150 ?_
        refine GW_goto (tgt := 156) dX7_init_151 (by decide) ?_
        refine GW_iast (i := i) 1 dX7_init_156 rfl (by omega) (by omega) (Nat.le_of_ble_eq_true rfl) ?_
        refine GW_eq (ws' := ((h0, .inr (7, fs)) :: (q1, .inl (Y.2 0, 6424, .inl (fun j => Int32.ofInt ((rup (mp1 i) i 2 : Row) j)))) :: wr : va_W)) rfl ?_
        rw [mp1_s (by rw [if_pos (by omega)])]
        refine GW_iinc 0 dX7_init_157 rfl (Nat.le_of_ble_eq_true rfl) rfl ?_
        refine GW_goto (tgt := 132) dX7_init_160 (by decide) ?_
        exact ih (by omega))
theorem l_m2 {Y : ct_Y} {fin : va_W → Prop} {k n h0 q1 : Nat} {fs : List Value} {wr : va_W} (hfs : fs[0]? = some (.ref q1)) (hk2 : GW mX7_init Y fin k n 234 [(1, .int (Int32.ofInt ((4 : Nat) : Int))), (0, .ref h0)] [] ((h0, .inr (7, fs)) :: (q1, .inl (Y.2 0, 6424, .inl (fun j => Int32.ofInt ((mp2 4 : Row) j)))) :: wr : va_W)) : ∀ i : Nat, i ≤ 4 → GW mX7_init Y fin k n 165 [(1, .int (Int32.ofInt (i : Int))), (0, .ref h0)] [] ((h0, .inr (7, fs)) :: (q1, .inl (Y.2 0, 6424, .inl (fun j => Int32.ofInt ((mp2 i : Row) j)))) :: wr : va_W) :=
  up_loop (fun i hi ih => by
    refine GW_iload 0 dX7_init_165 rfl rfl ?_
    refine GW_iconst dX7_init_166 ?_
    refine GW_icmp_ge 234 dX7_init_167 (by decide) (by omega) (by omega) (fun h => ?_) (fun h => ?_)
    · have e : i = 4 := by omega
      subst e
      exact hk2
    · refine GW_aload 1 dX7_init_170 rfl rfl ?_
      refine GW_get 0 dX7_init_171 fX7_7 rfl hfs ?_
      refine GW_sipush dX7_init_174 (by decide) ?_
      refine GW_iload 0 dX7_init_177 rfl rfl ?_
      refine GW_iadd dX7_init_178 ?_
      refine GW_bipush dX7_init_179 (by decide) ?_
      refine GW_iload 0 dX7_init_181 rfl rfl ?_
      refine GW_imul dX7_init_182 ?_
      refine GW_bipush dX7_init_183 (by decide) ?_
      refine GW_iadd dX7_init_185 ?_
      refine GW_iast (i := 6401 + i) 1 dX7_init_186 rfl (by omega) (by omega) (Nat.le_of_ble_eq_true rfl) ?_
      refine GW_eq (ws' := ((h0, .inr (7, fs)) :: (q1, .inl (Y.2 0, 6424, .inl (fun j => Int32.ofInt ((rup (mp2 i) (6401 + i) (100 * (i : Int) + 100) : Row) j)))) :: wr : va_W)) rfl ?_
      refine GW_aload 1 dX7_init_187 rfl rfl ?_
      refine GW_get 0 dX7_init_188 fX7_7 rfl hfs ?_
      refine GW_sipush dX7_init_191 (by decide) ?_
      refine GW_iload 0 dX7_init_194 rfl rfl ?_
      refine GW_iadd dX7_init_195 ?_
      refine GW_bipush dX7_init_196 (by decide) ?_
      refine GW_iload 0 dX7_init_198 rfl rfl ?_
      refine GW_imul dX7_init_199 ?_
      refine GW_sipush dX7_init_200 (by decide) ?_
      refine GW_iadd dX7_init_203 ?_
      refine GW_iast (i := 6405 + i) 1 dX7_init_204 rfl (by omega) (by omega) (Nat.le_of_ble_eq_true rfl) ?_
      refine GW_eq (ws' := ((h0, .inr (7, fs)) :: (q1, .inl (Y.2 0, 6424, .inl (fun j => Int32.ofInt ((rup (rup (mp2 i) (6401 + i) (100 * (i : Int) + 100)) (6405 + i) (100 * (i : Int) + 160) : Row) j)))) :: wr : va_W)) rfl ?_
      refine GW_aload 1 dX7_init_205 rfl rfl ?_
      refine GW_get 0 dX7_init_206 fX7_7 rfl hfs ?_
      refine GW_sipush dX7_init_209 (by decide) ?_
      refine GW_iload 0 dX7_init_212 rfl rfl ?_
      refine GW_iadd dX7_init_213 ?_
      refine GW_iconst dX7_init_214 ?_
      refine GW_iast (i := 6409 + i) 1 dX7_init_215 rfl (by omega) (by omega) (Nat.le_of_ble_eq_true rfl) ?_
      refine GW_eq (ws' := ((h0, .inr (7, fs)) :: (q1, .inl (Y.2 0, 6424, .inl (fun j => Int32.ofInt ((rup (rup (rup (mp2 i) (6401 + i) (100 * (i : Int) + 100)) (6405 + i) (100 * (i : Int) + 160)) (6409 + i) 5 : Row) j)))) :: wr : va_W)) rfl ?_
      refine GW_aload 1 dX7_init_216 rfl rfl ?_
      refine GW_get 0 dX7_init_217 fX7_7 rfl hfs ?_
      refine GW_sipush dX7_init_220 (by decide) ?_
      refine GW_iload 0 dX7_init_223 rfl rfl ?_
      refine GW_iadd dX7_init_224 ?_
      refine GW_bipush dX7_init_225 (by decide) ?_
      refine GW_iast (i := 6417 + i) 1 dX7_init_227 rfl (by omega) (by omega) (Nat.le_of_ble_eq_true rfl) ?_
      refine GW_eq (ws' := ((h0, .inr (7, fs)) :: (q1, .inl (Y.2 0, 6424, .inl (fun j => Int32.ofInt ((rup (rup (rup (rup (mp2 i) (6401 + i) (100 * (i : Int) + 100)) (6405 + i) (100 * (i : Int) + 160)) (6409 + i) 5) (6417 + i) 15 : Row) j)))) :: wr : va_W)) rfl ?_
      rw [mp2_s (by omega)]
      refine GW_iinc 0 dX7_init_228 rfl (Nat.le_of_ble_eq_true rfl) rfl ?_
      refine GW_goto (tgt := 165) dX7_init_231 (by decide) ?_
      exact ih (by omega))
theorem l_m3 {Y : ct_Y} {fin : va_W → Prop} {k n h0 q1 : Nat} {fs : List Value} {wr : va_W} (hfs : fs[0]? = some (.ref q1)) (hk : k ≤ 15) (hn : n ≤ 29345) (hfin : fin ((h0, .inr (7, fs)) :: (q1, .inl (Y.2 0, 6424, .inl (fun j => Int32.ofInt ((Xz : Row) j)))) :: wr : va_W)) : GW mX7_init Y fin k n 130 [(0, .ref h0)] [] ((h0, .inr (7, fs)) :: (q1, .inl (Y.2 0, 6424, .inl (fun j => Int32.ofInt ((zR : Row) j)))) :: wr : va_W) := by
  refine GW_iconst dX7_init_130 ?_
  refine GW_istore (i := 1) (lvs' := [(1, .int (Int32.ofInt 0)), (0, .ref h0)]) dX7_init_131 rfl (Nat.le_of_ble_eq_true rfl) rfl ?_
  have h3 : GW mX7_init Y fin k n 234 [(1, .int (Int32.ofInt ((4 : Nat) : Int))), (0, .ref h0)] [] ((h0, .inr (7, fs)) :: (q1, .inl (Y.2 0, 6424, .inl (fun j => Int32.ofInt ((mp2 4 : Row) j)))) :: wr : va_W) := by
    refine GW_aload 1 dX7_init_234 rfl rfl ?_
    refine GW_get 0 dX7_init_235 fX7_7 rfl hfs ?_
    refine GW_sipush dX7_init_238 (by decide) ?_
    refine GW_iconst dX7_init_241 ?_
    refine GW_iast (i := 6421) 1 dX7_init_242 rfl rfl (Nat.le_of_ble_eq_true rfl) (Nat.le_of_ble_eq_true rfl) ?_
    refine GW_eq (ws' := ((h0, .inr (7, fs)) :: (q1, .inl (Y.2 0, 6424, .inl (fun j => Int32.ofInt ((rup (mp2 4) 6421 3 : Row) j)))) :: wr : va_W)) rfl ?_
    refine GW_aload 1 dX7_init_243 rfl rfl ?_
    refine GW_get 0 dX7_init_244 fX7_7 rfl hfs ?_
    refine GW_sipush dX7_init_247 (by decide) ?_
    refine GW_iconst dX7_init_250 ?_
    refine GW_iast (i := 6422) 1 dX7_init_251 rfl rfl (Nat.le_of_ble_eq_true rfl) (Nat.le_of_ble_eq_true rfl) ?_
    refine GW_eq (ws' := ((h0, .inr (7, fs)) :: (q1, .inl (Y.2 0, 6424, .inl (fun j => Int32.ofInt ((Xz : Row) j)))) :: wr : va_W)) rfl ?_
    exact GW_ret dX7_init_252 rfl hk hn hfin
  have h2 : GW mX7_init Y fin k n 163 [(1, .int (Int32.ofInt ((301 : Nat) : Int))), (0, .ref h0)] [] ((h0, .inr (7, fs)) :: (q1, .inl (Y.2 0, 6424, .inl (fun j => Int32.ofInt ((mp1 301 : Row) j)))) :: wr : va_W) := by
    rw [mp12]
    refine GW_iconst dX7_init_163 ?_
    refine GW_istore (i := 1) (lvs' := [(1, .int (Int32.ofInt 0)), (0, .ref h0)]) dX7_init_164 rfl (Nat.le_of_ble_eq_true rfl) rfl ?_
    exact l_m2 hfs h3 0 (by omega)
  have e : zR = mp1 0 := by
    funext j
    unfold mp1
    rw [if_neg (by omega)]
    rfl
  rw [e]
  exact l_m1 hfs h2 0 (by omega)
def PM0 (σ : am_S) : Prop := σ.1 1 = Xz ∧ σ.1 3 0 = 0 ∧ σ.1 3 1 = 0
theorem nX7 : Ctor mX7_init 7 [.null, .null, .null, .null, .null, .null, .null, .null, .null, .null, .null, .null, .null, .int 0, .null, .null] TM PM0 := by
  refine Ctor.of (by decide) rfl (Nat.le_of_ble_eq_true rfl) (fun Y h0 => ?_)
  refine GW_aload 0 dX7_init_0 rfl rfl ?_
  refine GW_obj dX7_init_1 oiX7 oi_2 oi_3 (Nat.le_of_ble_eq_true rfl) (Nat.le_of_ble_eq_true rfl) ?_
  refine GW_aload 0 dX7_init_4 rfl rfl ?_
  refine GW_sipush dX7_init_5 (by decide) ?_
  refine GW_newi (N := 6424) dX7_init_8 ac_int rfl (Nat.le_of_ble_eq_true rfl) (Nat.le_of_ble_eq_true rfl) (Nat.le_of_ble_eq_true rfl) (Nat.le_of_ble_eq_true rfl) (fun q1 => ?_)
  refine GW_eq (ws' := [(h0, .inr (7, [.null, .null, .null, .null, .null, .null, .null, .null, .null, .null, .null, .null, .null, .int 0, .null, .null])), (q1, .inl (Y.2 0, 6424, .inl (fun j => Int32.ofInt ((zR : Row) j))))]) rfl ?_
  refine GW_putF 0 dX7_init_10 qX7_7 rfl rfl rfl (Nat.le_of_ble_eq_true rfl) ?_
  refine GW_eq (ws' := [(h0, .inr (7, [.ref q1, .null, .null, .null, .null, .null, .null, .null, .null, .null, .null, .null, .null, .int 0, .null, .null])), (q1, .inl (Y.2 0, 6424, .inl (fun j => Int32.ofInt ((zR : Row) j))))]) rfl ?_
  refine GW_aload 0 dX7_init_13 rfl rfl ?_
  refine GW_sipush dX7_init_14 (by decide) ?_
  refine GW_newi (N := 12848) dX7_init_17 ac_int rfl (Nat.le_of_ble_eq_true rfl) (Nat.le_of_ble_eq_true rfl) (Nat.le_of_ble_eq_true rfl) (Nat.le_of_ble_eq_true rfl) (fun q2 => ?_)
  refine GW_eq (ws' := [(h0, .inr (7, [.ref q1, .null, .null, .null, .null, .null, .null, .null, .null, .null, .null, .null, .null, .int 0, .null, .null])), (q1, .inl (Y.2 0, 6424, .inl (fun j => Int32.ofInt ((zR : Row) j)))), (q2, .inl (Y.2 0, 12848, .inl (fun j => Int32.ofInt ((zR : Row) j))))]) rfl ?_
  refine GW_putF 0 dX7_init_19 qX7_13 rfl rfl rfl (Nat.le_of_ble_eq_true rfl) ?_
  refine GW_eq (ws' := [(h0, .inr (7, [.ref q1, .ref q2, .null, .null, .null, .null, .null, .null, .null, .null, .null, .null, .null, .int 0, .null, .null])), (q1, .inl (Y.2 0, 6424, .inl (fun j => Int32.ofInt ((zR : Row) j)))), (q2, .inl (Y.2 0, 12848, .inl (fun j => Int32.ofInt ((zR : Row) j))))]) rfl ?_
  refine GW_aload 0 dX7_init_22 rfl rfl ?_
  refine GW_iconst dX7_init_23 ?_
  refine GW_newz (N := 2) dX7_init_24 ac_boolean rfl (Nat.le_of_ble_eq_true rfl) (Nat.le_of_ble_eq_true rfl) (Nat.le_of_ble_eq_true rfl) (Nat.le_of_ble_eq_true rfl) (fun q3 => ?_)
  refine GW_eq (ws' := [(h0, .inr (7, [.ref q1, .ref q2, .null, .null, .null, .null, .null, .null, .null, .null, .null, .null, .null, .int 0, .null, .null])), (q1, .inl (Y.2 0, 6424, .inl (fun j => Int32.ofInt ((zR : Row) j)))), (q2, .inl (Y.2 0, 12848, .inl (fun j => Int32.ofInt ((zR : Row) j)))), (q3, .inl (Y.2 1, 2, .inl (fun j => Int32.ofInt ((zR : Row) j))))]) rfl ?_
  refine GW_putF 0 dX7_init_26 qX7_16 rfl rfl rfl (Nat.le_of_ble_eq_true rfl) ?_
  refine GW_eq (ws' := [(h0, .inr (7, [.ref q1, .ref q2, .ref q3, .null, .null, .null, .null, .null, .null, .null, .null, .null, .null, .int 0, .null, .null])), (q1, .inl (Y.2 0, 6424, .inl (fun j => Int32.ofInt ((zR : Row) j)))), (q2, .inl (Y.2 0, 12848, .inl (fun j => Int32.ofInt ((zR : Row) j)))), (q3, .inl (Y.2 1, 2, .inl (fun j => Int32.ofInt ((zR : Row) j))))]) rfl ?_
  refine GW_aload 0 dX7_init_29 rfl rfl ?_
  refine GW_sipush dX7_init_30 (by decide) ?_
  refine GW_newi (N := 301) dX7_init_33 ac_int rfl (Nat.le_of_ble_eq_true rfl) (Nat.le_of_ble_eq_true rfl) (Nat.le_of_ble_eq_true rfl) (Nat.le_of_ble_eq_true rfl) (fun q4 => ?_)
  refine GW_eq (ws' := [(h0, .inr (7, [.ref q1, .ref q2, .ref q3, .null, .null, .null, .null, .null, .null, .null, .null, .null, .null, .int 0, .null, .null])), (q1, .inl (Y.2 0, 6424, .inl (fun j => Int32.ofInt ((zR : Row) j)))), (q2, .inl (Y.2 0, 12848, .inl (fun j => Int32.ofInt ((zR : Row) j)))), (q3, .inl (Y.2 1, 2, .inl (fun j => Int32.ofInt ((zR : Row) j)))), (q4, .inl (Y.2 0, 301, .inl (fun j => Int32.ofInt ((zR : Row) j))))]) rfl ?_
  refine GW_putF 0 dX7_init_35 qX7_20 rfl rfl rfl (Nat.le_of_ble_eq_true rfl) ?_
  refine GW_eq (ws' := [(h0, .inr (7, [.ref q1, .ref q2, .ref q3, .ref q4, .null, .null, .null, .null, .null, .null, .null, .null, .null, .int 0, .null, .null])), (q1, .inl (Y.2 0, 6424, .inl (fun j => Int32.ofInt ((zR : Row) j)))), (q2, .inl (Y.2 0, 12848, .inl (fun j => Int32.ofInt ((zR : Row) j)))), (q3, .inl (Y.2 1, 2, .inl (fun j => Int32.ofInt ((zR : Row) j)))), (q4, .inl (Y.2 0, 301, .inl (fun j => Int32.ofInt ((zR : Row) j))))]) rfl ?_
  refine GW_aload 0 dX7_init_38 rfl rfl ?_
  refine GW_sipush dX7_init_39 (by decide) ?_
  refine GW_newi (N := 6020) dX7_init_42 ac_int rfl (Nat.le_of_ble_eq_true rfl) (Nat.le_of_ble_eq_true rfl) (Nat.le_of_ble_eq_true rfl) (Nat.le_of_ble_eq_true rfl) (fun q5 => ?_)
  refine GW_eq (ws' := [(h0, .inr (7, [.ref q1, .ref q2, .ref q3, .ref q4, .null, .null, .null, .null, .null, .null, .null, .null, .null, .int 0, .null, .null])), (q1, .inl (Y.2 0, 6424, .inl (fun j => Int32.ofInt ((zR : Row) j)))), (q2, .inl (Y.2 0, 12848, .inl (fun j => Int32.ofInt ((zR : Row) j)))), (q3, .inl (Y.2 1, 2, .inl (fun j => Int32.ofInt ((zR : Row) j)))), (q4, .inl (Y.2 0, 301, .inl (fun j => Int32.ofInt ((zR : Row) j)))), (q5, .inl (Y.2 0, 6020, .inl (fun j => Int32.ofInt ((zR : Row) j))))]) rfl ?_
  refine GW_putF 0 dX7_init_44 qX7_23 rfl rfl rfl (Nat.le_of_ble_eq_true rfl) ?_
  refine GW_eq (ws' := [(h0, .inr (7, [.ref q1, .ref q2, .ref q3, .ref q4, .ref q5, .null, .null, .null, .null, .null, .null, .null, .null, .int 0, .null, .null])), (q1, .inl (Y.2 0, 6424, .inl (fun j => Int32.ofInt ((zR : Row) j)))), (q2, .inl (Y.2 0, 12848, .inl (fun j => Int32.ofInt ((zR : Row) j)))), (q3, .inl (Y.2 1, 2, .inl (fun j => Int32.ofInt ((zR : Row) j)))), (q4, .inl (Y.2 0, 301, .inl (fun j => Int32.ofInt ((zR : Row) j)))), (q5, .inl (Y.2 0, 6020, .inl (fun j => Int32.ofInt ((zR : Row) j))))]) rfl ?_
  refine GW_aload 0 dX7_init_47 rfl rfl ?_
  refine GW_sipush dX7_init_48 (by decide) ?_
  refine GW_newi (N := 1204) dX7_init_51 ac_int rfl (Nat.le_of_ble_eq_true rfl) (Nat.le_of_ble_eq_true rfl) (Nat.le_of_ble_eq_true rfl) (Nat.le_of_ble_eq_true rfl) (fun q6 => ?_)
  refine GW_eq (ws' := [(h0, .inr (7, [.ref q1, .ref q2, .ref q3, .ref q4, .ref q5, .null, .null, .null, .null, .null, .null, .null, .null, .int 0, .null, .null])), (q1, .inl (Y.2 0, 6424, .inl (fun j => Int32.ofInt ((zR : Row) j)))), (q2, .inl (Y.2 0, 12848, .inl (fun j => Int32.ofInt ((zR : Row) j)))), (q3, .inl (Y.2 1, 2, .inl (fun j => Int32.ofInt ((zR : Row) j)))), (q4, .inl (Y.2 0, 301, .inl (fun j => Int32.ofInt ((zR : Row) j)))), (q5, .inl (Y.2 0, 6020, .inl (fun j => Int32.ofInt ((zR : Row) j)))), (q6, .inl (Y.2 0, 1204, .inl (fun j => Int32.ofInt ((zR : Row) j))))]) rfl ?_
  refine GW_putF 0 dX7_init_53 qX7_26 rfl rfl rfl (Nat.le_of_ble_eq_true rfl) ?_
  refine GW_eq (ws' := [(h0, .inr (7, [.ref q1, .ref q2, .ref q3, .ref q4, .ref q5, .ref q6, .null, .null, .null, .null, .null, .null, .null, .int 0, .null, .null])), (q1, .inl (Y.2 0, 6424, .inl (fun j => Int32.ofInt ((zR : Row) j)))), (q2, .inl (Y.2 0, 12848, .inl (fun j => Int32.ofInt ((zR : Row) j)))), (q3, .inl (Y.2 1, 2, .inl (fun j => Int32.ofInt ((zR : Row) j)))), (q4, .inl (Y.2 0, 301, .inl (fun j => Int32.ofInt ((zR : Row) j)))), (q5, .inl (Y.2 0, 6020, .inl (fun j => Int32.ofInt ((zR : Row) j)))), (q6, .inl (Y.2 0, 1204, .inl (fun j => Int32.ofInt ((zR : Row) j))))]) rfl ?_
  refine GW_aload 0 dX7_init_56 rfl rfl ?_
  refine GW_sipush dX7_init_57 (by decide) ?_
  refine GW_newz (N := 1204) dX7_init_60 ac_boolean rfl (Nat.le_of_ble_eq_true rfl) (Nat.le_of_ble_eq_true rfl) (Nat.le_of_ble_eq_true rfl) (Nat.le_of_ble_eq_true rfl) (fun q7 => ?_)
  refine GW_eq (ws' := [(h0, .inr (7, [.ref q1, .ref q2, .ref q3, .ref q4, .ref q5, .ref q6, .null, .null, .null, .null, .null, .null, .null, .int 0, .null, .null])), (q1, .inl (Y.2 0, 6424, .inl (fun j => Int32.ofInt ((zR : Row) j)))), (q2, .inl (Y.2 0, 12848, .inl (fun j => Int32.ofInt ((zR : Row) j)))), (q3, .inl (Y.2 1, 2, .inl (fun j => Int32.ofInt ((zR : Row) j)))), (q4, .inl (Y.2 0, 301, .inl (fun j => Int32.ofInt ((zR : Row) j)))), (q5, .inl (Y.2 0, 6020, .inl (fun j => Int32.ofInt ((zR : Row) j)))), (q6, .inl (Y.2 0, 1204, .inl (fun j => Int32.ofInt ((zR : Row) j)))), (q7, .inl (Y.2 1, 1204, .inl (fun j => Int32.ofInt ((zR : Row) j))))]) rfl ?_
  refine GW_putF 0 dX7_init_62 qX7_29 rfl rfl rfl (Nat.le_of_ble_eq_true rfl) ?_
  refine GW_eq (ws' := [(h0, .inr (7, [.ref q1, .ref q2, .ref q3, .ref q4, .ref q5, .ref q6, .ref q7, .null, .null, .null, .null, .null, .null, .int 0, .null, .null])), (q1, .inl (Y.2 0, 6424, .inl (fun j => Int32.ofInt ((zR : Row) j)))), (q2, .inl (Y.2 0, 12848, .inl (fun j => Int32.ofInt ((zR : Row) j)))), (q3, .inl (Y.2 1, 2, .inl (fun j => Int32.ofInt ((zR : Row) j)))), (q4, .inl (Y.2 0, 301, .inl (fun j => Int32.ofInt ((zR : Row) j)))), (q5, .inl (Y.2 0, 6020, .inl (fun j => Int32.ofInt ((zR : Row) j)))), (q6, .inl (Y.2 0, 1204, .inl (fun j => Int32.ofInt ((zR : Row) j)))), (q7, .inl (Y.2 1, 1204, .inl (fun j => Int32.ofInt ((zR : Row) j))))]) rfl ?_
  refine GW_aload 0 dX7_init_65 rfl rfl ?_
  refine GW_bipush dX7_init_66 (by decide) ?_
  refine GW_newz (N := 20) dX7_init_68 ac_boolean rfl (Nat.le_of_ble_eq_true rfl) (Nat.le_of_ble_eq_true rfl) (Nat.le_of_ble_eq_true rfl) (Nat.le_of_ble_eq_true rfl) (fun q8 => ?_)
  refine GW_eq (ws' := [(h0, .inr (7, [.ref q1, .ref q2, .ref q3, .ref q4, .ref q5, .ref q6, .ref q7, .null, .null, .null, .null, .null, .null, .int 0, .null, .null])), (q1, .inl (Y.2 0, 6424, .inl (fun j => Int32.ofInt ((zR : Row) j)))), (q2, .inl (Y.2 0, 12848, .inl (fun j => Int32.ofInt ((zR : Row) j)))), (q3, .inl (Y.2 1, 2, .inl (fun j => Int32.ofInt ((zR : Row) j)))), (q4, .inl (Y.2 0, 301, .inl (fun j => Int32.ofInt ((zR : Row) j)))), (q5, .inl (Y.2 0, 6020, .inl (fun j => Int32.ofInt ((zR : Row) j)))), (q6, .inl (Y.2 0, 1204, .inl (fun j => Int32.ofInt ((zR : Row) j)))), (q7, .inl (Y.2 1, 1204, .inl (fun j => Int32.ofInt ((zR : Row) j)))), (q8, .inl (Y.2 1, 20, .inl (fun j => Int32.ofInt ((zR : Row) j))))]) rfl ?_
  refine GW_putF 0 dX7_init_70 qX7_32 rfl rfl rfl (Nat.le_of_ble_eq_true rfl) ?_
  refine GW_eq (ws' := [(h0, .inr (7, [.ref q1, .ref q2, .ref q3, .ref q4, .ref q5, .ref q6, .ref q7, .ref q8, .null, .null, .null, .null, .null, .int 0, .null, .null])), (q1, .inl (Y.2 0, 6424, .inl (fun j => Int32.ofInt ((zR : Row) j)))), (q2, .inl (Y.2 0, 12848, .inl (fun j => Int32.ofInt ((zR : Row) j)))), (q3, .inl (Y.2 1, 2, .inl (fun j => Int32.ofInt ((zR : Row) j)))), (q4, .inl (Y.2 0, 301, .inl (fun j => Int32.ofInt ((zR : Row) j)))), (q5, .inl (Y.2 0, 6020, .inl (fun j => Int32.ofInt ((zR : Row) j)))), (q6, .inl (Y.2 0, 1204, .inl (fun j => Int32.ofInt ((zR : Row) j)))), (q7, .inl (Y.2 1, 1204, .inl (fun j => Int32.ofInt ((zR : Row) j)))), (q8, .inl (Y.2 1, 20, .inl (fun j => Int32.ofInt ((zR : Row) j))))]) rfl ?_
  refine GW_aload 0 dX7_init_73 rfl rfl ?_
  refine GW_bipush dX7_init_74 (by decide) ?_
  refine GW_newi (N := 20) dX7_init_76 ac_int rfl (Nat.le_of_ble_eq_true rfl) (Nat.le_of_ble_eq_true rfl) (Nat.le_of_ble_eq_true rfl) (Nat.le_of_ble_eq_true rfl) (fun q9 => ?_)
  refine GW_eq (ws' := [(h0, .inr (7, [.ref q1, .ref q2, .ref q3, .ref q4, .ref q5, .ref q6, .ref q7, .ref q8, .null, .null, .null, .null, .null, .int 0, .null, .null])), (q1, .inl (Y.2 0, 6424, .inl (fun j => Int32.ofInt ((zR : Row) j)))), (q2, .inl (Y.2 0, 12848, .inl (fun j => Int32.ofInt ((zR : Row) j)))), (q3, .inl (Y.2 1, 2, .inl (fun j => Int32.ofInt ((zR : Row) j)))), (q4, .inl (Y.2 0, 301, .inl (fun j => Int32.ofInt ((zR : Row) j)))), (q5, .inl (Y.2 0, 6020, .inl (fun j => Int32.ofInt ((zR : Row) j)))), (q6, .inl (Y.2 0, 1204, .inl (fun j => Int32.ofInt ((zR : Row) j)))), (q7, .inl (Y.2 1, 1204, .inl (fun j => Int32.ofInt ((zR : Row) j)))), (q8, .inl (Y.2 1, 20, .inl (fun j => Int32.ofInt ((zR : Row) j)))), (q9, .inl (Y.2 0, 20, .inl (fun j => Int32.ofInt ((zR : Row) j))))]) rfl ?_
  refine GW_putF 0 dX7_init_78 qX7_35 rfl rfl rfl (Nat.le_of_ble_eq_true rfl) ?_
  refine GW_eq (ws' := [(h0, .inr (7, [.ref q1, .ref q2, .ref q3, .ref q4, .ref q5, .ref q6, .ref q7, .ref q8, .ref q9, .null, .null, .null, .null, .int 0, .null, .null])), (q1, .inl (Y.2 0, 6424, .inl (fun j => Int32.ofInt ((zR : Row) j)))), (q2, .inl (Y.2 0, 12848, .inl (fun j => Int32.ofInt ((zR : Row) j)))), (q3, .inl (Y.2 1, 2, .inl (fun j => Int32.ofInt ((zR : Row) j)))), (q4, .inl (Y.2 0, 301, .inl (fun j => Int32.ofInt ((zR : Row) j)))), (q5, .inl (Y.2 0, 6020, .inl (fun j => Int32.ofInt ((zR : Row) j)))), (q6, .inl (Y.2 0, 1204, .inl (fun j => Int32.ofInt ((zR : Row) j)))), (q7, .inl (Y.2 1, 1204, .inl (fun j => Int32.ofInt ((zR : Row) j)))), (q8, .inl (Y.2 1, 20, .inl (fun j => Int32.ofInt ((zR : Row) j)))), (q9, .inl (Y.2 0, 20, .inl (fun j => Int32.ofInt ((zR : Row) j))))]) rfl ?_
  refine GW_aload 0 dX7_init_81 rfl rfl ?_
  refine GW_sipush dX7_init_82 (by decide) ?_
  refine GW_newi (N := 1204) dX7_init_85 ac_int rfl (Nat.le_of_ble_eq_true rfl) (Nat.le_of_ble_eq_true rfl) (Nat.le_of_ble_eq_true rfl) (Nat.le_of_ble_eq_true rfl) (fun q10 => ?_)
  refine GW_eq (ws' := [(h0, .inr (7, [.ref q1, .ref q2, .ref q3, .ref q4, .ref q5, .ref q6, .ref q7, .ref q8, .ref q9, .null, .null, .null, .null, .int 0, .null, .null])), (q1, .inl (Y.2 0, 6424, .inl (fun j => Int32.ofInt ((zR : Row) j)))), (q2, .inl (Y.2 0, 12848, .inl (fun j => Int32.ofInt ((zR : Row) j)))), (q3, .inl (Y.2 1, 2, .inl (fun j => Int32.ofInt ((zR : Row) j)))), (q4, .inl (Y.2 0, 301, .inl (fun j => Int32.ofInt ((zR : Row) j)))), (q5, .inl (Y.2 0, 6020, .inl (fun j => Int32.ofInt ((zR : Row) j)))), (q6, .inl (Y.2 0, 1204, .inl (fun j => Int32.ofInt ((zR : Row) j)))), (q7, .inl (Y.2 1, 1204, .inl (fun j => Int32.ofInt ((zR : Row) j)))), (q8, .inl (Y.2 1, 20, .inl (fun j => Int32.ofInt ((zR : Row) j)))), (q9, .inl (Y.2 0, 20, .inl (fun j => Int32.ofInt ((zR : Row) j)))), (q10, .inl (Y.2 0, 1204, .inl (fun j => Int32.ofInt ((zR : Row) j))))]) rfl ?_
  refine GW_putF 0 dX7_init_87 qX7_38 rfl rfl rfl (Nat.le_of_ble_eq_true rfl) ?_
  refine GW_eq (ws' := [(h0, .inr (7, [.ref q1, .ref q2, .ref q3, .ref q4, .ref q5, .ref q6, .ref q7, .ref q8, .ref q9, .ref q10, .null, .null, .null, .int 0, .null, .null])), (q1, .inl (Y.2 0, 6424, .inl (fun j => Int32.ofInt ((zR : Row) j)))), (q2, .inl (Y.2 0, 12848, .inl (fun j => Int32.ofInt ((zR : Row) j)))), (q3, .inl (Y.2 1, 2, .inl (fun j => Int32.ofInt ((zR : Row) j)))), (q4, .inl (Y.2 0, 301, .inl (fun j => Int32.ofInt ((zR : Row) j)))), (q5, .inl (Y.2 0, 6020, .inl (fun j => Int32.ofInt ((zR : Row) j)))), (q6, .inl (Y.2 0, 1204, .inl (fun j => Int32.ofInt ((zR : Row) j)))), (q7, .inl (Y.2 1, 1204, .inl (fun j => Int32.ofInt ((zR : Row) j)))), (q8, .inl (Y.2 1, 20, .inl (fun j => Int32.ofInt ((zR : Row) j)))), (q9, .inl (Y.2 0, 20, .inl (fun j => Int32.ofInt ((zR : Row) j)))), (q10, .inl (Y.2 0, 1204, .inl (fun j => Int32.ofInt ((zR : Row) j))))]) rfl ?_
  refine GW_aload 0 dX7_init_90 rfl rfl ?_
  refine GW_bipush dX7_init_91 (by decide) ?_
  refine GW_newi (N := 20) dX7_init_93 ac_int rfl (Nat.le_of_ble_eq_true rfl) (Nat.le_of_ble_eq_true rfl) (Nat.le_of_ble_eq_true rfl) (Nat.le_of_ble_eq_true rfl) (fun q11 => ?_)
  refine GW_eq (ws' := [(h0, .inr (7, [.ref q1, .ref q2, .ref q3, .ref q4, .ref q5, .ref q6, .ref q7, .ref q8, .ref q9, .ref q10, .null, .null, .null, .int 0, .null, .null])), (q1, .inl (Y.2 0, 6424, .inl (fun j => Int32.ofInt ((zR : Row) j)))), (q2, .inl (Y.2 0, 12848, .inl (fun j => Int32.ofInt ((zR : Row) j)))), (q3, .inl (Y.2 1, 2, .inl (fun j => Int32.ofInt ((zR : Row) j)))), (q4, .inl (Y.2 0, 301, .inl (fun j => Int32.ofInt ((zR : Row) j)))), (q5, .inl (Y.2 0, 6020, .inl (fun j => Int32.ofInt ((zR : Row) j)))), (q6, .inl (Y.2 0, 1204, .inl (fun j => Int32.ofInt ((zR : Row) j)))), (q7, .inl (Y.2 1, 1204, .inl (fun j => Int32.ofInt ((zR : Row) j)))), (q8, .inl (Y.2 1, 20, .inl (fun j => Int32.ofInt ((zR : Row) j)))), (q9, .inl (Y.2 0, 20, .inl (fun j => Int32.ofInt ((zR : Row) j)))), (q10, .inl (Y.2 0, 1204, .inl (fun j => Int32.ofInt ((zR : Row) j)))), (q11, .inl (Y.2 0, 20, .inl (fun j => Int32.ofInt ((zR : Row) j))))]) rfl ?_
  refine GW_putF 0 dX7_init_95 qX7_41 rfl rfl rfl (Nat.le_of_ble_eq_true rfl) ?_
  refine GW_eq (ws' := [(h0, .inr (7, [.ref q1, .ref q2, .ref q3, .ref q4, .ref q5, .ref q6, .ref q7, .ref q8, .ref q9, .ref q10, .ref q11, .null, .null, .int 0, .null, .null])), (q1, .inl (Y.2 0, 6424, .inl (fun j => Int32.ofInt ((zR : Row) j)))), (q2, .inl (Y.2 0, 12848, .inl (fun j => Int32.ofInt ((zR : Row) j)))), (q3, .inl (Y.2 1, 2, .inl (fun j => Int32.ofInt ((zR : Row) j)))), (q4, .inl (Y.2 0, 301, .inl (fun j => Int32.ofInt ((zR : Row) j)))), (q5, .inl (Y.2 0, 6020, .inl (fun j => Int32.ofInt ((zR : Row) j)))), (q6, .inl (Y.2 0, 1204, .inl (fun j => Int32.ofInt ((zR : Row) j)))), (q7, .inl (Y.2 1, 1204, .inl (fun j => Int32.ofInt ((zR : Row) j)))), (q8, .inl (Y.2 1, 20, .inl (fun j => Int32.ofInt ((zR : Row) j)))), (q9, .inl (Y.2 0, 20, .inl (fun j => Int32.ofInt ((zR : Row) j)))), (q10, .inl (Y.2 0, 1204, .inl (fun j => Int32.ofInt ((zR : Row) j)))), (q11, .inl (Y.2 0, 20, .inl (fun j => Int32.ofInt ((zR : Row) j))))]) rfl ?_
  refine GW_aload 0 dX7_init_98 rfl rfl ?_
  refine GW_bipush dX7_init_99 (by decide) ?_
  refine GW_newi (N := 20) dX7_init_101 ac_int rfl (Nat.le_of_ble_eq_true rfl) (Nat.le_of_ble_eq_true rfl) (Nat.le_of_ble_eq_true rfl) (Nat.le_of_ble_eq_true rfl) (fun q12 => ?_)
  refine GW_eq (ws' := [(h0, .inr (7, [.ref q1, .ref q2, .ref q3, .ref q4, .ref q5, .ref q6, .ref q7, .ref q8, .ref q9, .ref q10, .ref q11, .null, .null, .int 0, .null, .null])), (q1, .inl (Y.2 0, 6424, .inl (fun j => Int32.ofInt ((zR : Row) j)))), (q2, .inl (Y.2 0, 12848, .inl (fun j => Int32.ofInt ((zR : Row) j)))), (q3, .inl (Y.2 1, 2, .inl (fun j => Int32.ofInt ((zR : Row) j)))), (q4, .inl (Y.2 0, 301, .inl (fun j => Int32.ofInt ((zR : Row) j)))), (q5, .inl (Y.2 0, 6020, .inl (fun j => Int32.ofInt ((zR : Row) j)))), (q6, .inl (Y.2 0, 1204, .inl (fun j => Int32.ofInt ((zR : Row) j)))), (q7, .inl (Y.2 1, 1204, .inl (fun j => Int32.ofInt ((zR : Row) j)))), (q8, .inl (Y.2 1, 20, .inl (fun j => Int32.ofInt ((zR : Row) j)))), (q9, .inl (Y.2 0, 20, .inl (fun j => Int32.ofInt ((zR : Row) j)))), (q10, .inl (Y.2 0, 1204, .inl (fun j => Int32.ofInt ((zR : Row) j)))), (q11, .inl (Y.2 0, 20, .inl (fun j => Int32.ofInt ((zR : Row) j)))), (q12, .inl (Y.2 0, 20, .inl (fun j => Int32.ofInt ((zR : Row) j))))]) rfl ?_
  refine GW_putF 0 dX7_init_103 qX7_44 rfl rfl rfl (Nat.le_of_ble_eq_true rfl) ?_
  refine GW_eq (ws' := [(h0, .inr (7, [.ref q1, .ref q2, .ref q3, .ref q4, .ref q5, .ref q6, .ref q7, .ref q8, .ref q9, .ref q10, .ref q11, .ref q12, .null, .int 0, .null, .null])), (q1, .inl (Y.2 0, 6424, .inl (fun j => Int32.ofInt ((zR : Row) j)))), (q2, .inl (Y.2 0, 12848, .inl (fun j => Int32.ofInt ((zR : Row) j)))), (q3, .inl (Y.2 1, 2, .inl (fun j => Int32.ofInt ((zR : Row) j)))), (q4, .inl (Y.2 0, 301, .inl (fun j => Int32.ofInt ((zR : Row) j)))), (q5, .inl (Y.2 0, 6020, .inl (fun j => Int32.ofInt ((zR : Row) j)))), (q6, .inl (Y.2 0, 1204, .inl (fun j => Int32.ofInt ((zR : Row) j)))), (q7, .inl (Y.2 1, 1204, .inl (fun j => Int32.ofInt ((zR : Row) j)))), (q8, .inl (Y.2 1, 20, .inl (fun j => Int32.ofInt ((zR : Row) j)))), (q9, .inl (Y.2 0, 20, .inl (fun j => Int32.ofInt ((zR : Row) j)))), (q10, .inl (Y.2 0, 1204, .inl (fun j => Int32.ofInt ((zR : Row) j)))), (q11, .inl (Y.2 0, 20, .inl (fun j => Int32.ofInt ((zR : Row) j)))), (q12, .inl (Y.2 0, 20, .inl (fun j => Int32.ofInt ((zR : Row) j))))]) rfl ?_
  refine GW_aload 0 dX7_init_106 rfl rfl ?_
  refine GW_bipush dX7_init_107 (by decide) ?_
  refine GW_newi (N := 20) dX7_init_109 ac_int rfl (Nat.le_of_ble_eq_true rfl) (Nat.le_of_ble_eq_true rfl) (Nat.le_of_ble_eq_true rfl) (Nat.le_of_ble_eq_true rfl) (fun q13 => ?_)
  refine GW_eq (ws' := [(h0, .inr (7, [.ref q1, .ref q2, .ref q3, .ref q4, .ref q5, .ref q6, .ref q7, .ref q8, .ref q9, .ref q10, .ref q11, .ref q12, .null, .int 0, .null, .null])), (q1, .inl (Y.2 0, 6424, .inl (fun j => Int32.ofInt ((zR : Row) j)))), (q2, .inl (Y.2 0, 12848, .inl (fun j => Int32.ofInt ((zR : Row) j)))), (q3, .inl (Y.2 1, 2, .inl (fun j => Int32.ofInt ((zR : Row) j)))), (q4, .inl (Y.2 0, 301, .inl (fun j => Int32.ofInt ((zR : Row) j)))), (q5, .inl (Y.2 0, 6020, .inl (fun j => Int32.ofInt ((zR : Row) j)))), (q6, .inl (Y.2 0, 1204, .inl (fun j => Int32.ofInt ((zR : Row) j)))), (q7, .inl (Y.2 1, 1204, .inl (fun j => Int32.ofInt ((zR : Row) j)))), (q8, .inl (Y.2 1, 20, .inl (fun j => Int32.ofInt ((zR : Row) j)))), (q9, .inl (Y.2 0, 20, .inl (fun j => Int32.ofInt ((zR : Row) j)))), (q10, .inl (Y.2 0, 1204, .inl (fun j => Int32.ofInt ((zR : Row) j)))), (q11, .inl (Y.2 0, 20, .inl (fun j => Int32.ofInt ((zR : Row) j)))), (q12, .inl (Y.2 0, 20, .inl (fun j => Int32.ofInt ((zR : Row) j)))), (q13, .inl (Y.2 0, 20, .inl (fun j => Int32.ofInt ((zR : Row) j))))]) rfl ?_
  refine GW_putF 0 dX7_init_111 qX7_47 rfl rfl rfl (Nat.le_of_ble_eq_true rfl) ?_
  refine GW_eq (ws' := [(h0, .inr (7, [.ref q1, .ref q2, .ref q3, .ref q4, .ref q5, .ref q6, .ref q7, .ref q8, .ref q9, .ref q10, .ref q11, .ref q12, .ref q13, .int 0, .null, .null])), (q1, .inl (Y.2 0, 6424, .inl (fun j => Int32.ofInt ((zR : Row) j)))), (q2, .inl (Y.2 0, 12848, .inl (fun j => Int32.ofInt ((zR : Row) j)))), (q3, .inl (Y.2 1, 2, .inl (fun j => Int32.ofInt ((zR : Row) j)))), (q4, .inl (Y.2 0, 301, .inl (fun j => Int32.ofInt ((zR : Row) j)))), (q5, .inl (Y.2 0, 6020, .inl (fun j => Int32.ofInt ((zR : Row) j)))), (q6, .inl (Y.2 0, 1204, .inl (fun j => Int32.ofInt ((zR : Row) j)))), (q7, .inl (Y.2 1, 1204, .inl (fun j => Int32.ofInt ((zR : Row) j)))), (q8, .inl (Y.2 1, 20, .inl (fun j => Int32.ofInt ((zR : Row) j)))), (q9, .inl (Y.2 0, 20, .inl (fun j => Int32.ofInt ((zR : Row) j)))), (q10, .inl (Y.2 0, 1204, .inl (fun j => Int32.ofInt ((zR : Row) j)))), (q11, .inl (Y.2 0, 20, .inl (fun j => Int32.ofInt ((zR : Row) j)))), (q12, .inl (Y.2 0, 20, .inl (fun j => Int32.ofInt ((zR : Row) j)))), (q13, .inl (Y.2 0, 20, .inl (fun j => Int32.ofInt ((zR : Row) j))))]) rfl ?_
  refine GW_aload 0 dX7_init_114 rfl rfl ?_
  refine GW_bipush dX7_init_115 (by decide) ?_
  refine GW_newi (N := 18) dX7_init_117 ac_int rfl (Nat.le_of_ble_eq_true rfl) (Nat.le_of_ble_eq_true rfl) (Nat.le_of_ble_eq_true rfl) (Nat.le_of_ble_eq_true rfl) (fun q14 => ?_)
  refine GW_eq (ws' := [(h0, .inr (7, [.ref q1, .ref q2, .ref q3, .ref q4, .ref q5, .ref q6, .ref q7, .ref q8, .ref q9, .ref q10, .ref q11, .ref q12, .ref q13, .int 0, .null, .null])), (q1, .inl (Y.2 0, 6424, .inl (fun j => Int32.ofInt ((zR : Row) j)))), (q2, .inl (Y.2 0, 12848, .inl (fun j => Int32.ofInt ((zR : Row) j)))), (q3, .inl (Y.2 1, 2, .inl (fun j => Int32.ofInt ((zR : Row) j)))), (q4, .inl (Y.2 0, 301, .inl (fun j => Int32.ofInt ((zR : Row) j)))), (q5, .inl (Y.2 0, 6020, .inl (fun j => Int32.ofInt ((zR : Row) j)))), (q6, .inl (Y.2 0, 1204, .inl (fun j => Int32.ofInt ((zR : Row) j)))), (q7, .inl (Y.2 1, 1204, .inl (fun j => Int32.ofInt ((zR : Row) j)))), (q8, .inl (Y.2 1, 20, .inl (fun j => Int32.ofInt ((zR : Row) j)))), (q9, .inl (Y.2 0, 20, .inl (fun j => Int32.ofInt ((zR : Row) j)))), (q10, .inl (Y.2 0, 1204, .inl (fun j => Int32.ofInt ((zR : Row) j)))), (q11, .inl (Y.2 0, 20, .inl (fun j => Int32.ofInt ((zR : Row) j)))), (q12, .inl (Y.2 0, 20, .inl (fun j => Int32.ofInt ((zR : Row) j)))), (q13, .inl (Y.2 0, 20, .inl (fun j => Int32.ofInt ((zR : Row) j)))), (q14, .inl (Y.2 0, 18, .inl (fun j => Int32.ofInt ((zR : Row) j))))]) rfl ?_
  refine GW_putF 0 dX7_init_119 qX7_50 rfl rfl rfl (Nat.le_of_ble_eq_true rfl) ?_
  refine GW_eq (ws' := [(h0, .inr (7, [.ref q1, .ref q2, .ref q3, .ref q4, .ref q5, .ref q6, .ref q7, .ref q8, .ref q9, .ref q10, .ref q11, .ref q12, .ref q13, .int 0, .ref q14, .null])), (q1, .inl (Y.2 0, 6424, .inl (fun j => Int32.ofInt ((zR : Row) j)))), (q2, .inl (Y.2 0, 12848, .inl (fun j => Int32.ofInt ((zR : Row) j)))), (q3, .inl (Y.2 1, 2, .inl (fun j => Int32.ofInt ((zR : Row) j)))), (q4, .inl (Y.2 0, 301, .inl (fun j => Int32.ofInt ((zR : Row) j)))), (q5, .inl (Y.2 0, 6020, .inl (fun j => Int32.ofInt ((zR : Row) j)))), (q6, .inl (Y.2 0, 1204, .inl (fun j => Int32.ofInt ((zR : Row) j)))), (q7, .inl (Y.2 1, 1204, .inl (fun j => Int32.ofInt ((zR : Row) j)))), (q8, .inl (Y.2 1, 20, .inl (fun j => Int32.ofInt ((zR : Row) j)))), (q9, .inl (Y.2 0, 20, .inl (fun j => Int32.ofInt ((zR : Row) j)))), (q10, .inl (Y.2 0, 1204, .inl (fun j => Int32.ofInt ((zR : Row) j)))), (q11, .inl (Y.2 0, 20, .inl (fun j => Int32.ofInt ((zR : Row) j)))), (q12, .inl (Y.2 0, 20, .inl (fun j => Int32.ofInt ((zR : Row) j)))), (q13, .inl (Y.2 0, 20, .inl (fun j => Int32.ofInt ((zR : Row) j)))), (q14, .inl (Y.2 0, 18, .inl (fun j => Int32.ofInt ((zR : Row) j))))]) rfl ?_
  refine GW_aload 0 dX7_init_122 rfl rfl ?_
  refine GW_bipush dX7_init_123 (by decide) ?_
  refine GW_newi (N := 20) dX7_init_125 ac_int rfl (Nat.le_of_ble_eq_true rfl) (Nat.le_of_ble_eq_true rfl) (Nat.le_of_ble_eq_true rfl) (Nat.le_of_ble_eq_true rfl) (fun q15 => ?_)
  refine GW_eq (ws' := [(h0, .inr (7, [.ref q1, .ref q2, .ref q3, .ref q4, .ref q5, .ref q6, .ref q7, .ref q8, .ref q9, .ref q10, .ref q11, .ref q12, .ref q13, .int 0, .ref q14, .null])), (q1, .inl (Y.2 0, 6424, .inl (fun j => Int32.ofInt ((zR : Row) j)))), (q2, .inl (Y.2 0, 12848, .inl (fun j => Int32.ofInt ((zR : Row) j)))), (q3, .inl (Y.2 1, 2, .inl (fun j => Int32.ofInt ((zR : Row) j)))), (q4, .inl (Y.2 0, 301, .inl (fun j => Int32.ofInt ((zR : Row) j)))), (q5, .inl (Y.2 0, 6020, .inl (fun j => Int32.ofInt ((zR : Row) j)))), (q6, .inl (Y.2 0, 1204, .inl (fun j => Int32.ofInt ((zR : Row) j)))), (q7, .inl (Y.2 1, 1204, .inl (fun j => Int32.ofInt ((zR : Row) j)))), (q8, .inl (Y.2 1, 20, .inl (fun j => Int32.ofInt ((zR : Row) j)))), (q9, .inl (Y.2 0, 20, .inl (fun j => Int32.ofInt ((zR : Row) j)))), (q10, .inl (Y.2 0, 1204, .inl (fun j => Int32.ofInt ((zR : Row) j)))), (q11, .inl (Y.2 0, 20, .inl (fun j => Int32.ofInt ((zR : Row) j)))), (q12, .inl (Y.2 0, 20, .inl (fun j => Int32.ofInt ((zR : Row) j)))), (q13, .inl (Y.2 0, 20, .inl (fun j => Int32.ofInt ((zR : Row) j)))), (q14, .inl (Y.2 0, 18, .inl (fun j => Int32.ofInt ((zR : Row) j)))), (q15, .inl (Y.2 0, 20, .inl (fun j => Int32.ofInt ((zR : Row) j))))]) rfl ?_
  refine GW_putF 0 dX7_init_127 qX7_53 rfl rfl rfl (Nat.le_of_ble_eq_true rfl) ?_
  refine GW_eq (ws' := [(h0, .inr (7, [.ref q1, .ref q2, .ref q3, .ref q4, .ref q5, .ref q6, .ref q7, .ref q8, .ref q9, .ref q10, .ref q11, .ref q12, .ref q13, .int 0, .ref q14, .ref q15])), (q1, .inl (Y.2 0, 6424, .inl (fun j => Int32.ofInt ((zR : Row) j)))), (q2, .inl (Y.2 0, 12848, .inl (fun j => Int32.ofInt ((zR : Row) j)))), (q3, .inl (Y.2 1, 2, .inl (fun j => Int32.ofInt ((zR : Row) j)))), (q4, .inl (Y.2 0, 301, .inl (fun j => Int32.ofInt ((zR : Row) j)))), (q5, .inl (Y.2 0, 6020, .inl (fun j => Int32.ofInt ((zR : Row) j)))), (q6, .inl (Y.2 0, 1204, .inl (fun j => Int32.ofInt ((zR : Row) j)))), (q7, .inl (Y.2 1, 1204, .inl (fun j => Int32.ofInt ((zR : Row) j)))), (q8, .inl (Y.2 1, 20, .inl (fun j => Int32.ofInt ((zR : Row) j)))), (q9, .inl (Y.2 0, 20, .inl (fun j => Int32.ofInt ((zR : Row) j)))), (q10, .inl (Y.2 0, 1204, .inl (fun j => Int32.ofInt ((zR : Row) j)))), (q11, .inl (Y.2 0, 20, .inl (fun j => Int32.ofInt ((zR : Row) j)))), (q12, .inl (Y.2 0, 20, .inl (fun j => Int32.ofInt ((zR : Row) j)))), (q13, .inl (Y.2 0, 20, .inl (fun j => Int32.ofInt ((zR : Row) j)))), (q14, .inl (Y.2 0, 18, .inl (fun j => Int32.ofInt ((zR : Row) j)))), (q15, .inl (Y.2 0, 20, .inl (fun j => Int32.ofInt ((zR : Row) j))))]) rfl ?_
  refine GW_eq (ws' := ((h0, .inr (7, [.ref q1, .ref q2, .ref q3, .ref q4, .ref q5, .ref q6, .ref q7, .ref q8, .ref q9, .ref q10, .ref q11, .ref q12, .ref q13, .int 0, .ref q14, .ref q15])) :: (q1, .inl (Y.2 0, 6424, .inl (fun j => Int32.ofInt ((zR : Row) j)))) :: [(q2, .inl (Y.2 0, 12848, .inl (fun j => Int32.ofInt ((zR : Row) j)))), (q3, .inl (Y.2 1, 2, .inl (fun j => Int32.ofInt ((zR : Row) j)))), (q4, .inl (Y.2 0, 301, .inl (fun j => Int32.ofInt ((zR : Row) j)))), (q5, .inl (Y.2 0, 6020, .inl (fun j => Int32.ofInt ((zR : Row) j)))), (q6, .inl (Y.2 0, 1204, .inl (fun j => Int32.ofInt ((zR : Row) j)))), (q7, .inl (Y.2 1, 1204, .inl (fun j => Int32.ofInt ((zR : Row) j)))), (q8, .inl (Y.2 1, 20, .inl (fun j => Int32.ofInt ((zR : Row) j)))), (q9, .inl (Y.2 0, 20, .inl (fun j => Int32.ofInt ((zR : Row) j)))), (q10, .inl (Y.2 0, 1204, .inl (fun j => Int32.ofInt ((zR : Row) j)))), (q11, .inl (Y.2 0, 20, .inl (fun j => Int32.ofInt ((zR : Row) j)))), (q12, .inl (Y.2 0, 20, .inl (fun j => Int32.ofInt ((zR : Row) j)))), (q13, .inl (Y.2 0, 20, .inl (fun j => Int32.ofInt ((zR : Row) j)))), (q14, .inl (Y.2 0, 18, .inl (fun j => Int32.ofInt ((zR : Row) j)))), (q15, .inl (Y.2 0, 20, .inl (fun j => Int32.ofInt ((zR : Row) j))))] : va_W)) rfl ?_
  refine l_m3 (fs := [.ref q1, .ref q2, .ref q3, .ref q4, .ref q5, .ref q6, .ref q7, .ref q8, .ref q9, .ref q10, .ref q11, .ref q12, .ref q13, .int 0, .ref q14, .ref q15]) rfl (Nat.le_of_ble_eq_true rfl) (Nat.le_of_ble_eq_true rfl) ⟨lR [h0, q1, q2, q3, q4, q5, q6, q7, q8, q9, q10, q11, q12, q13, q14, q15] 0, sR [zR, Xz, zR, zR, zR, zR, zR, zR, zR, zR, zR, zR, zR, zR, zR, zR], rfl, ?_, rfl, rfl, rfl⟩
  simp only [am_ws, TM, List.mapIdx_cons, List.mapIdx_nil]
  rfl
