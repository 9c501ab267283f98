-- ===== the law's loop =====
theorem i32_rng (x : Int32) : -2147483648 ≤ x.toInt ∧ x.toInt < 2147483648 := ⟨Int32.le_toInt x, Int32.toInt_lt x⟩
section LWL
variable {b L : Nat} {xs : Nat → Int32} {i : Nat} {σ : am_S}
theorem LW_head (hL : L ≤ 2560) (hi : i ≤ 2600) (kt : L < i + 5 → LW b L xs 737 i [] σ) (kf : i + 5 ≤ L → LW b L xs 26 i [] σ) : LW b L xs 18 i [] σ := by
  intro E p l e s m below meth c H locs ls C G hE S V
  refine lv_iload_n C.1 C.2.1 dL_law_18 rfl (lv_at V 0 rfl) ?_
  refine lv_aload_n C.1 C.2.1 dL_law_19 rfl (lv_at V 3 rfl) ?_
  refine va_slen C.1 C.2.1 C.2.2.2.2.2.2.1 C.2.2.2.2.2.2.2.1 (lw_out hE C.2.2.2.2.2.2.2.1) S dL_law_20 ?_
  refine lv_iconst C.1 C.2.1 dL_law_21 rfl ?_
  refine lv_isub C.1 C.2.1 dL_law_22 ?_
  rw [← i32_ofNat, ← Int32.ofInt_sub]
  refine lv_icmp_gt (tgt := 737) C.1 C.2.1 dL_law_23 (by decide) (fun h => ?_) (fun h => ?_)
  · rw [i32_lt (by omega) (by omega)] at h
    exact kt (by omega) E p l e s m below meth c H locs ls C G hE S V
  · rw [i32_lt (by omega) (by omega)] at h
    exact kf (by omega) E p l e s m below meth c H locs ls C G hE S V
theorem LW_end : LW b L xs 737 i [] σ := by
  intro E p l e s m below meth c H locs ls C G hE S V
  refine lv_iconst (v := 1) C.1 C.2.1 dL_law_737 (by decide) ?_
  refine va_forget (fun q hq => ?_) ?_
  · obtain ⟨k, hk, e1⟩ := S.2.2 q hq
    rw [e1]
    exact hE k hk
  · exact lw_ret C.1 C.2.1 C.2.2.1 C.2.2.2.2.2.2.2.2.1 dL_law_738
theorem LW_inc (kk : LW b L xs 18 ((i + 5 : Nat) : Int) [] σ) : LW b L xs 731 i [] σ := by
  intro E p l e s m below meth c H locs ls C G hE S V
  refine lv_iinc (k := 0) (v := Int32.ofInt ((i : Int) + 5)) (lv' := [(3, .int (Int32.ofInt ((i : Int) + 5))), (2, .ref (E.1 70)), (1, .ref (E.1 0)), (0, .ref b)]) C.1 C.2.1 dL_law_731 V rfl (Int32.ofInt_add i 5).symm (by decide) rfl (fun ls' V' => ?_)
  refine lv_goto (tgt := 18) C.1 C.2.1 dL_law_734 (by decide) ?_
  exact kk E p l e s m below meth c H locs ls' C G hE S V'
theorem LW_disp (hL : L ≤ 2560) (hi : i < L) (kd : LW b L xs 731 i [] σ) (k0 : LW b L xs 124 i [] σ) (k1 : LW b L xs 157 i [] σ) (k2 : LW b L xs 180 i [] σ) (k3 : LW b L xs 203 i [] σ) (k4 : LW b L xs 256 i [] σ) (k5 : LW b L xs 279 i [] σ) (k6 : LW b L xs 312 i [] σ) (k7 : LW b L xs 345 i [] σ) (k8 : LW b L xs 388 i [] σ) (k9 : LW b L xs 431 i [] σ) (k10 : LW b L xs 464 i [] σ) (k11 : LW b L xs 497 i [] σ) (k12 : LW b L xs 540 i [] σ) (k13 : LW b L xs 573 i [] σ) (k14 : LW b L xs 596 i [] σ) (k15 : LW b L xs 629 i [] σ) (k16 : LW b L xs 662 i [] σ) (k17 : LW b L xs 685 i [] σ) (k18 : LW b L xs 708 i [] σ) : LW b L xs 26 i [] σ := by
  intro E p l e s m below meth c H locs ls C G hE S V
  have hin : vp_in (Int32.ofInt (i : Int)) L := i32_in (by omega) (by omega)
  refine lv_aload_n C.1 C.2.1 dL_law_26 rfl (lv_at V 3 rfl) ?_
  refine lv_iload_n C.1 C.2.1 dL_law_27 rfl (lv_at V 0 rfl) ?_
  refine va_sld C.1 C.2.1 C.2.2.2.2.2.2.1 C.2.2.2.2.2.2.2.1 (lw_out hE C.2.2.2.2.2.2.2.1) S hin dL_law_28 ?_
  refine lv_bipush C.1 C.2.1 dL_law_29 rfl ?_
  refine lv_iand C.1 C.2.1 dL_law_31 ?_
  refine lv_topi (fun x hx => ?_)
  by_cases ho : x.toInt < 0 ∨ 18 < x.toInt
  · exact lv_tableOut (tgt := 731) C.1 C.2.1 dL_law_32 ho (by decide) (kd E p l e s m below meth c H locs ls C G hE S V)
  · rcases (show x.toInt = 0 ∨ x.toInt = 1 ∨ x.toInt = 2 ∨ x.toInt = 3 ∨ x.toInt = 4 ∨ x.toInt = 5 ∨ x.toInt = 6 ∨ x.toInt = 7 ∨ x.toInt = 8 ∨ x.toInt = 9 ∨ x.toInt = 10 ∨ x.toInt = 11 ∨ x.toInt = 12 ∨ x.toInt = 13 ∨ x.toInt = 14 ∨ x.toInt = 15 ∨ x.toInt = 16 ∨ x.toInt = 17 ∨ x.toInt = 18 by omega) with hv | hv | hv | hv | hv | hv | hv | hv | hv | hv | hv | hv | hv | hv | hv | hv | hv | hv | hv
    · exact lv_tableIn (tgt := 124) C.1 C.2.1 dL_law_32 (by omega) (by omega) (by rw [hv]; rfl) (by decide) (k0 E p l e s m below meth c H locs ls C G hE S V)
    · exact lv_tableIn (tgt := 157) C.1 C.2.1 dL_law_32 (by omega) (by omega) (by rw [hv]; rfl) (by decide) (k1 E p l e s m below meth c H locs ls C G hE S V)
    · exact lv_tableIn (tgt := 180) C.1 C.2.1 dL_law_32 (by omega) (by omega) (by rw [hv]; rfl) (by decide) (k2 E p l e s m below meth c H locs ls C G hE S V)
    · exact lv_tableIn (tgt := 203) C.1 C.2.1 dL_law_32 (by omega) (by omega) (by rw [hv]; rfl) (by decide) (k3 E p l e s m below meth c H locs ls C G hE S V)
    · exact lv_tableIn (tgt := 256) C.1 C.2.1 dL_law_32 (by omega) (by omega) (by rw [hv]; rfl) (by decide) (k4 E p l e s m below meth c H locs ls C G hE S V)
    · exact lv_tableIn (tgt := 279) C.1 C.2.1 dL_law_32 (by omega) (by omega) (by rw [hv]; rfl) (by decide) (k5 E p l e s m below meth c H locs ls C G hE S V)
    · exact lv_tableIn (tgt := 312) C.1 C.2.1 dL_law_32 (by omega) (by omega) (by rw [hv]; rfl) (by decide) (k6 E p l e s m below meth c H locs ls C G hE S V)
    · exact lv_tableIn (tgt := 345) C.1 C.2.1 dL_law_32 (by omega) (by omega) (by rw [hv]; rfl) (by decide) (k7 E p l e s m below meth c H locs ls C G hE S V)
    · exact lv_tableIn (tgt := 388) C.1 C.2.1 dL_law_32 (by omega) (by omega) (by rw [hv]; rfl) (by decide) (k8 E p l e s m below meth c H locs ls C G hE S V)
    · exact lv_tableIn (tgt := 431) C.1 C.2.1 dL_law_32 (by omega) (by omega) (by rw [hv]; rfl) (by decide) (k9 E p l e s m below meth c H locs ls C G hE S V)
    · exact lv_tableIn (tgt := 464) C.1 C.2.1 dL_law_32 (by omega) (by omega) (by rw [hv]; rfl) (by decide) (k10 E p l e s m below meth c H locs ls C G hE S V)
    · exact lv_tableIn (tgt := 497) C.1 C.2.1 dL_law_32 (by omega) (by omega) (by rw [hv]; rfl) (by decide) (k11 E p l e s m below meth c H locs ls C G hE S V)
    · exact lv_tableIn (tgt := 540) C.1 C.2.1 dL_law_32 (by omega) (by omega) (by rw [hv]; rfl) (by decide) (k12 E p l e s m below meth c H locs ls C G hE S V)
    · exact lv_tableIn (tgt := 573) C.1 C.2.1 dL_law_32 (by omega) (by omega) (by rw [hv]; rfl) (by decide) (k13 E p l e s m below meth c H locs ls C G hE S V)
    · exact lv_tableIn (tgt := 596) C.1 C.2.1 dL_law_32 (by omega) (by omega) (by rw [hv]; rfl) (by decide) (k14 E p l e s m below meth c H locs ls C G hE S V)
    · exact lv_tableIn (tgt := 629) C.1 C.2.1 dL_law_32 (by omega) (by omega) (by rw [hv]; rfl) (by decide) (k15 E p l e s m below meth c H locs ls C G hE S V)
    · exact lv_tableIn (tgt := 662) C.1 C.2.1 dL_law_32 (by omega) (by omega) (by rw [hv]; rfl) (by decide) (k16 E p l e s m below meth c H locs ls C G hE S V)
    · exact lv_tableIn (tgt := 685) C.1 C.2.1 dL_law_32 (by omega) (by omega) (by rw [hv]; rfl) (by decide) (k17 E p l e s m below meth c H locs ls C G hE S V)
    · exact lv_tableIn (tgt := 708) C.1 C.2.1 dL_law_32 (by omega) (by omega) (by rw [hv]; rfl) (by decide) (k18 E p l e s m below meth c H locs ls C G hE S V)
theorem lc_speed (hL : L ≤ 2560) (hi : i + 5 ≤ L) (hI : Inv σ) (hk : ∀ σ', Inv σ' → LW b L xs 731 i [] σ') : LW b L xs 124 i [] σ := by
  refine LW_x dL_law_124 ?_
  refine LW_arg 1 hL (by omega) dL_law_125 dL_law_126 dL_law_127 dL_law_128 dL_law_129 rfl ?_
  refine LW_arg 2 hL (by omega) dL_law_130 dL_law_131 dL_law_132 dL_law_133 dL_law_134 rfl ?_
  refine LW_call [vI (xs (i + 1)).toInt, vI (xs (i + 2)).toInt] [] dL_law_135 kL_13 ⟨rfl, rfl, rfl, (Nat.le_of_ble_eq_true rfl), (Nat.le_of_ble_eq_true rfl)⟩ rfl rfl rfl (Nat.le_of_ble_eq_true rfl) (pr_speed hI (i32_rng _) (i32_rng _)) (fun z σ1 h1 => ?_)
  refine LW_m dL_law_138 ?_
  refine LW_arg 1 hL (by omega) dL_law_139 dL_law_140 dL_law_141 dL_law_142 dL_law_143 rfl ?_
  refine LW_arg 2 hL (by omega) dL_law_144 dL_law_145 dL_law_146 dL_law_147 dL_law_148 rfl ?_
  refine LW_call [vI (xs (i + 1)).toInt, vI (xs (i + 2)).toInt] [vI z] dL_law_149 kL_17 ⟨rfl, rfl, rfl, (Nat.le_of_ble_eq_true rfl), (Nat.le_of_ble_eq_true rfl)⟩ rfl rfl rfl (Nat.le_of_ble_eq_true rfl) h1 (fun z' σ2 h2 => ?_)
  exact LW_eq 731 dL_law_152 (by decide) h2.1 (hk σ2 h2.2)
theorem lc_level (hL : L ≤ 2560) (hi : i + 5 ≤ L) (hI : Inv σ) (hk : ∀ σ', Inv σ' → LW b L xs 731 i [] σ') : LW b L xs 157 i [] σ := by
  refine LW_x dL_law_157 ?_
  refine LW_arg 1 hL (by omega) dL_law_158 dL_law_159 dL_law_160 dL_law_161 dL_law_162 rfl ?_
  refine LW_call [vI (xs (i + 1)).toInt] [] dL_law_163 kL_18 ⟨rfl, rfl, rfl, (Nat.le_of_ble_eq_true rfl), (Nat.le_of_ble_eq_true rfl)⟩ rfl rfl rfl (Nat.le_of_ble_eq_true rfl) (pr_level hI (i32_rng _)) (fun z σ1 h1 => ?_)
  refine LW_m dL_law_166 ?_
  refine LW_arg 1 hL (by omega) dL_law_167 dL_law_168 dL_law_169 dL_law_170 dL_law_171 rfl ?_
  refine LW_call [vI (xs (i + 1)).toInt] [vI z] dL_law_172 kL_22 ⟨rfl, rfl, rfl, (Nat.le_of_ble_eq_true rfl), (Nat.le_of_ble_eq_true rfl)⟩ rfl rfl rfl (Nat.le_of_ble_eq_true rfl) h1 (fun z' σ2 h2 => ?_)
  exact LW_eq 731 dL_law_175 (by decide) h2.1 (hk σ2 h2.2)
theorem lc_gone (hL : L ≤ 2560) (hi : i + 5 ≤ L) (hI : Inv σ) (hk : ∀ σ', Inv σ' → LW b L xs 731 i [] σ') : LW b L xs 180 i [] σ := by
  refine LW_x dL_law_180 ?_
  refine LW_arg 1 hL (by omega) dL_law_181 dL_law_182 dL_law_183 dL_law_184 dL_law_185 rfl ?_
  refine LW_call [vI (xs (i + 1)).toInt] [] dL_law_186 kL_23 ⟨rfl, rfl, rfl, (Nat.le_of_ble_eq_true rfl), (Nat.le_of_ble_eq_true rfl)⟩ rfl rfl rfl (Nat.le_of_ble_eq_true rfl) (pr_gone hI (i32_rng _)) (fun z σ1 h1 => ?_)
  refine LW_m dL_law_189 ?_
  refine LW_arg 1 hL (by omega) dL_law_190 dL_law_191 dL_law_192 dL_law_193 dL_law_194 rfl ?_
  refine LW_call [vI (xs (i + 1)).toInt] [vI z] dL_law_195 kL_26 ⟨rfl, rfl, rfl, (Nat.le_of_ble_eq_true rfl), (Nat.le_of_ble_eq_true rfl)⟩ rfl rfl rfl (Nat.le_of_ble_eq_true rfl) h1 (fun z' σ2 h2 => ?_)
  exact LW_eq 731 dL_law_198 (by decide) h2.1 (hk σ2 h2.2)
theorem lc_see (hL : L ≤ 2560) (hi : i + 5 ≤ L) (hI : Inv σ) (hk : ∀ σ', Inv σ' → LW b L xs 731 i [] σ') : LW b L xs 203 i [] σ := by
  refine LW_x dL_law_203 ?_
  refine LW_arg 1 hL (by omega) dL_law_204 dL_law_205 dL_law_206 dL_law_207 dL_law_208 rfl ?_
  refine LW_arg 2 hL (by omega) dL_law_209 dL_law_210 dL_law_211 dL_law_212 dL_law_213 rfl ?_
  refine LW_arg 3 hL (by omega) dL_law_214 dL_law_215 dL_law_216 dL_law_217 dL_law_218 rfl ?_
  refine LW_arg 4 hL (by omega) dL_law_219 dL_law_220 dL_law_221 dL_law_222 dL_law_223 rfl ?_
  refine LW_call [vI (xs (i + 1)).toInt, vI (xs (i + 2)).toInt, vI (xs (i + 3)).toInt, vI (xs (i + 4)).toInt] [] dL_law_224 kL_27 ⟨rfl, rfl, rfl, (Nat.le_of_ble_eq_true rfl), (Nat.le_of_ble_eq_true rfl)⟩ rfl rfl rfl (Nat.le_of_ble_eq_true rfl) (pr_see hI (i32_rng _) (i32_rng _) (i32_rng _) (i32_rng _)) (fun z σ1 h1 => ?_)
  refine LW_m dL_law_227 ?_
  refine LW_arg 1 hL (by omega) dL_law_228 dL_law_229 dL_law_230 dL_law_231 dL_law_232 rfl ?_
  refine LW_arg 2 hL (by omega) dL_law_233 dL_law_234 dL_law_235 dL_law_236 dL_law_237 rfl ?_
  refine LW_arg 3 hL (by omega) dL_law_238 dL_law_239 dL_law_240 dL_law_241 dL_law_242 rfl ?_
  refine LW_arg 4 hL (by omega) dL_law_243 dL_law_244 dL_law_245 dL_law_246 dL_law_247 rfl ?_
  refine LW_call [vI (xs (i + 1)).toInt, vI (xs (i + 2)).toInt, vI (xs (i + 3)).toInt, vI (xs (i + 4)).toInt] [vI z] dL_law_248 kL_31 ⟨rfl, rfl, rfl, (Nat.le_of_ble_eq_true rfl), (Nat.le_of_ble_eq_true rfl)⟩ rfl rfl rfl (Nat.le_of_ble_eq_true rfl) h1 (fun z' σ2 h2 => ?_)
  exact LW_eq 731 dL_law_251 (by decide) h2.1 (hk σ2 h2.2)
theorem lc_drop (hL : L ≤ 2560) (hi : i + 5 ≤ L) (hI : Inv σ) (hk : ∀ σ', Inv σ' → LW b L xs 731 i [] σ') : LW b L xs 256 i [] σ := by
  refine LW_x dL_law_256 ?_
  refine LW_arg 1 hL (by omega) dL_law_257 dL_law_258 dL_law_259 dL_law_260 dL_law_261 rfl ?_
  refine LW_call [vI (xs (i + 1)).toInt] [] dL_law_262 kL_32 ⟨rfl, rfl, rfl, (Nat.le_of_ble_eq_true rfl), (Nat.le_of_ble_eq_true rfl)⟩ rfl rfl rfl (Nat.le_of_ble_eq_true rfl) (pr_drop hI (i32_rng _)) (fun z σ1 h1 => ?_)
  refine LW_m dL_law_265 ?_
  refine LW_arg 1 hL (by omega) dL_law_266 dL_law_267 dL_law_268 dL_law_269 dL_law_270 rfl ?_
  refine LW_call [vI (xs (i + 1)).toInt] [vI z] dL_law_271 kL_35 ⟨rfl, rfl, rfl, (Nat.le_of_ble_eq_true rfl), (Nat.le_of_ble_eq_true rfl)⟩ rfl rfl rfl (Nat.le_of_ble_eq_true rfl) h1 (fun z' σ2 h2 => ?_)
  exact LW_eq 731 dL_law_274 (by decide) h2.1 (hk σ2 h2.2)
theorem lc_thing (hL : L ≤ 2560) (hi : i + 5 ≤ L) (hI : Inv σ) (hk : ∀ σ', Inv σ' → LW b L xs 731 i [] σ') : LW b L xs 279 i [] σ := by
  refine LW_x dL_law_279 ?_
  refine LW_arg 1 hL (by omega) dL_law_280 dL_law_281 dL_law_282 dL_law_283 dL_law_284 rfl ?_
  refine LW_arg 2 hL (by omega) dL_law_285 dL_law_286 dL_law_287 dL_law_288 dL_law_289 rfl ?_
  refine LW_call [vI (xs (i + 1)).toInt, vI (xs (i + 2)).toInt] [] dL_law_290 kL_36 ⟨rfl, rfl, rfl, (Nat.le_of_ble_eq_true rfl), (Nat.le_of_ble_eq_true rfl)⟩ rfl rfl rfl (Nat.le_of_ble_eq_true rfl) (pr_thing hI (i32_rng _) (i32_rng _)) (fun z σ1 h1 => ?_)
  refine LW_m dL_law_293 ?_
  refine LW_arg 1 hL (by omega) dL_law_294 dL_law_295 dL_law_296 dL_law_297 dL_law_298 rfl ?_
  refine LW_arg 2 hL (by omega) dL_law_299 dL_law_300 dL_law_301 dL_law_302 dL_law_303 rfl ?_
  refine LW_call [vI (xs (i + 1)).toInt, vI (xs (i + 2)).toInt] [vI z] dL_law_304 kL_39 ⟨rfl, rfl, rfl, (Nat.le_of_ble_eq_true rfl), (Nat.le_of_ble_eq_true rfl)⟩ rfl rfl rfl (Nat.le_of_ble_eq_true rfl) h1 (fun z' σ2 h2 => ?_)
  exact LW_eq 731 dL_law_307 (by decide) h2.1 (hk σ2 h2.2)
theorem lc_place (hL : L ≤ 2560) (hi : i + 5 ≤ L) (hI : Inv σ) (hk : ∀ σ', Inv σ' → LW b L xs 731 i [] σ') : LW b L xs 312 i [] σ := by
  refine LW_x dL_law_312 ?_
  refine LW_arg 1 hL (by omega) dL_law_313 dL_law_314 dL_law_315 dL_law_316 dL_law_317 rfl ?_
  refine LW_arg 2 hL (by omega) dL_law_318 dL_law_319 dL_law_320 dL_law_321 dL_law_322 rfl ?_
  refine LW_call [vI (xs (i + 1)).toInt, vI (xs (i + 2)).toInt] [] dL_law_323 kL_40 ⟨rfl, rfl, rfl, (Nat.le_of_ble_eq_true rfl), (Nat.le_of_ble_eq_true rfl)⟩ rfl rfl rfl (Nat.le_of_ble_eq_true rfl) (pr_place hI (i32_rng _) (i32_rng _)) (fun z σ1 h1 => ?_)
  refine LW_m dL_law_326 ?_
  refine LW_arg 1 hL (by omega) dL_law_327 dL_law_328 dL_law_329 dL_law_330 dL_law_331 rfl ?_
  refine LW_arg 2 hL (by omega) dL_law_332 dL_law_333 dL_law_334 dL_law_335 dL_law_336 rfl ?_
  refine LW_call [vI (xs (i + 1)).toInt, vI (xs (i + 2)).toInt] [vI z] dL_law_337 kL_43 ⟨rfl, rfl, rfl, (Nat.le_of_ble_eq_true rfl), (Nat.le_of_ble_eq_true rfl)⟩ rfl rfl rfl (Nat.le_of_ble_eq_true rfl) h1 (fun z' σ2 h2 => ?_)
  exact LW_eq 731 dL_law_340 (by decide) h2.1 (hk σ2 h2.2)
theorem lc_reach (hL : L ≤ 2560) (hi : i + 5 ≤ L) (hI : Inv σ) (hk : ∀ σ', Inv σ' → LW b L xs 731 i [] σ') : LW b L xs 345 i [] σ := by
  refine LW_x dL_law_345 ?_
  refine LW_arg 1 hL (by omega) dL_law_346 dL_law_347 dL_law_348 dL_law_349 dL_law_350 rfl ?_
  refine LW_arg 2 hL (by omega) dL_law_351 dL_law_352 dL_law_353 dL_law_354 dL_law_355 rfl ?_
  refine LW_arg 3 hL (by omega) dL_law_356 dL_law_357 dL_law_358 dL_law_359 dL_law_360 rfl ?_
  refine LW_call [vI (xs (i + 1)).toInt, vI (xs (i + 2)).toInt, vI (xs (i + 3)).toInt] [] dL_law_361 kL_44 ⟨rfl, rfl, rfl, (Nat.le_of_ble_eq_true rfl), (Nat.le_of_ble_eq_true rfl)⟩ rfl rfl rfl (Nat.le_of_ble_eq_true rfl) (pr_reach hI (i32_rng _) (i32_rng _) (i32_rng _)) (fun z σ1 h1 => ?_)
  refine LW_m dL_law_364 ?_
  refine LW_arg 1 hL (by omega) dL_law_365 dL_law_366 dL_law_367 dL_law_368 dL_law_369 rfl ?_
  refine LW_arg 2 hL (by omega) dL_law_370 dL_law_371 dL_law_372 dL_law_373 dL_law_374 rfl ?_
  refine LW_arg 3 hL (by omega) dL_law_375 dL_law_376 dL_law_377 dL_law_378 dL_law_379 rfl ?_
  refine LW_call [vI (xs (i + 1)).toInt, vI (xs (i + 2)).toInt, vI (xs (i + 3)).toInt] [vI z] dL_law_380 kL_48 ⟨rfl, rfl, rfl, (Nat.le_of_ble_eq_true rfl), (Nat.le_of_ble_eq_true rfl)⟩ rfl rfl rfl (Nat.le_of_ble_eq_true rfl) h1 (fun z' σ2 h2 => ?_)
  exact LW_eq 731 dL_law_383 (by decide) h2.1 (hk σ2 h2.2)
theorem lc_beat (hL : L ≤ 2560) (hi : i + 5 ≤ L) (hI : Inv σ) (hk : ∀ σ', Inv σ' → LW b L xs 731 i [] σ') : LW b L xs 388 i [] σ := by
  refine LW_x dL_law_388 ?_
  refine LW_arg 1 hL (by omega) dL_law_389 dL_law_390 dL_law_391 dL_law_392 dL_law_393 rfl ?_
  refine LW_arg 2 hL (by omega) dL_law_394 dL_law_395 dL_law_396 dL_law_397 dL_law_398 rfl ?_
  refine LW_arg 3 hL (by omega) dL_law_399 dL_law_400 dL_law_401 dL_law_402 dL_law_403 rfl ?_
  refine LW_call [vI (xs (i + 1)).toInt, vI (xs (i + 2)).toInt, vI (xs (i + 3)).toInt] [] dL_law_404 kL_49 ⟨rfl, rfl, rfl, (Nat.le_of_ble_eq_true rfl), (Nat.le_of_ble_eq_true rfl)⟩ rfl rfl rfl (Nat.le_of_ble_eq_true rfl) (pr_beat hI (i32_rng _) (i32_rng _) (i32_rng _)) (fun z σ1 h1 => ?_)
  refine LW_m dL_law_407 ?_
  refine LW_arg 1 hL (by omega) dL_law_408 dL_law_409 dL_law_410 dL_law_411 dL_law_412 rfl ?_
  refine LW_arg 2 hL (by omega) dL_law_413 dL_law_414 dL_law_415 dL_law_416 dL_law_417 rfl ?_
  refine LW_arg 3 hL (by omega) dL_law_418 dL_law_419 dL_law_420 dL_law_421 dL_law_422 rfl ?_
  refine LW_call [vI (xs (i + 1)).toInt, vI (xs (i + 2)).toInt, vI (xs (i + 3)).toInt] [vI z] dL_law_423 kL_52 ⟨rfl, rfl, rfl, (Nat.le_of_ble_eq_true rfl), (Nat.le_of_ble_eq_true rfl)⟩ rfl rfl rfl (Nat.le_of_ble_eq_true rfl) h1 (fun z' σ2 h2 => ?_)
  exact LW_eq 731 dL_law_426 (by decide) h2.1 (hk σ2 h2.2)
theorem lc_lanes (hL : L ≤ 2560) (hi : i + 5 ≤ L) (hI : Inv σ) (hk : ∀ σ', Inv σ' → LW b L xs 731 i [] σ') : LW b L xs 431 i [] σ := by
  refine LW_x dL_law_431 ?_
  refine LW_arg 1 hL (by omega) dL_law_432 dL_law_433 dL_law_434 dL_law_435 dL_law_436 rfl ?_
  refine LW_arg 2 hL (by omega) dL_law_437 dL_law_438 dL_law_439 dL_law_440 dL_law_441 rfl ?_
  refine LW_call [vI (xs (i + 1)).toInt, vI (xs (i + 2)).toInt] [] dL_law_442 kL_53 ⟨rfl, rfl, rfl, (Nat.le_of_ble_eq_true rfl), (Nat.le_of_ble_eq_true rfl)⟩ rfl rfl rfl (Nat.le_of_ble_eq_true rfl) (pr_lanes hI (i32_rng _) (i32_rng _)) (fun z σ1 h1 => ?_)
  refine LW_m dL_law_445 ?_
  refine LW_arg 1 hL (by omega) dL_law_446 dL_law_447 dL_law_448 dL_law_449 dL_law_450 rfl ?_
  refine LW_arg 2 hL (by omega) dL_law_451 dL_law_452 dL_law_453 dL_law_454 dL_law_455 rfl ?_
  refine LW_call [vI (xs (i + 1)).toInt, vI (xs (i + 2)).toInt] [vI z] dL_law_456 kL_56 ⟨rfl, rfl, rfl, (Nat.le_of_ble_eq_true rfl), (Nat.le_of_ble_eq_true rfl)⟩ rfl rfl rfl (Nat.le_of_ble_eq_true rfl) h1 (fun z' σ2 h2 => ?_)
  exact LW_eq 731 dL_law_459 (by decide) h2.1 (hk σ2 h2.2)
theorem lc_arm (hL : L ≤ 2560) (hi : i + 5 ≤ L) (hI : Inv σ) (hk : ∀ σ', Inv σ' → LW b L xs 731 i [] σ') : LW b L xs 464 i [] σ := by
  refine LW_x dL_law_464 ?_
  refine LW_arg 1 hL (by omega) dL_law_465 dL_law_466 dL_law_467 dL_law_468 dL_law_469 rfl ?_
  refine LW_arg 2 hL (by omega) dL_law_470 dL_law_471 dL_law_472 dL_law_473 dL_law_474 rfl ?_
  refine LW_call [vI (xs (i + 1)).toInt, vI (xs (i + 2)).toInt] [] dL_law_475 kL_57 ⟨rfl, rfl, rfl, (Nat.le_of_ble_eq_true rfl), (Nat.le_of_ble_eq_true rfl)⟩ rfl rfl rfl (Nat.le_of_ble_eq_true rfl) (pr_arm hI (i32_rng _) (i32_rng _)) (fun z σ1 h1 => ?_)
  refine LW_m dL_law_478 ?_
  refine LW_arg 1 hL (by omega) dL_law_479 dL_law_480 dL_law_481 dL_law_482 dL_law_483 rfl ?_
  refine LW_arg 2 hL (by omega) dL_law_484 dL_law_485 dL_law_486 dL_law_487 dL_law_488 rfl ?_
  refine LW_call [vI (xs (i + 1)).toInt, vI (xs (i + 2)).toInt] [vI z] dL_law_489 kL_60 ⟨rfl, rfl, rfl, (Nat.le_of_ble_eq_true rfl), (Nat.le_of_ble_eq_true rfl)⟩ rfl rfl rfl (Nat.le_of_ble_eq_true rfl) h1 (fun z' σ2 h2 => ?_)
  exact LW_eq 731 dL_law_492 (by decide) h2.1 (hk σ2 h2.2)
theorem lc_can (hL : L ≤ 2560) (hi : i + 5 ≤ L) (hI : Inv σ) (hk : ∀ σ', Inv σ' → LW b L xs 731 i [] σ') : LW b L xs 497 i [] σ := by
  refine LW_x dL_law_497 ?_
  refine LW_arg 1 hL (by omega) dL_law_498 dL_law_499 dL_law_500 dL_law_501 dL_law_502 rfl ?_
  refine LW_arg 2 hL (by omega) dL_law_503 dL_law_504 dL_law_505 dL_law_506 dL_law_507 rfl ?_
  refine LW_arg 3 hL (by omega) dL_law_508 dL_law_509 dL_law_510 dL_law_511 dL_law_512 rfl ?_
  refine LW_call [vI (xs (i + 1)).toInt, vI (xs (i + 2)).toInt, vI (xs (i + 3)).toInt] [] dL_law_513 kL_61 ⟨rfl, rfl, rfl, (Nat.le_of_ble_eq_true rfl), (Nat.le_of_ble_eq_true rfl)⟩ rfl rfl rfl (Nat.le_of_ble_eq_true rfl) (pr_can hI (i32_rng _) (i32_rng _) (i32_rng _)) (fun z σ1 h1 => ?_)
  refine LW_m dL_law_516 ?_
  refine LW_arg 1 hL (by omega) dL_law_517 dL_law_518 dL_law_519 dL_law_520 dL_law_521 rfl ?_
  refine LW_arg 2 hL (by omega) dL_law_522 dL_law_523 dL_law_524 dL_law_525 dL_law_526 rfl ?_
  refine LW_arg 3 hL (by omega) dL_law_527 dL_law_528 dL_law_529 dL_law_530 dL_law_531 rfl ?_
  refine LW_call [vI (xs (i + 1)).toInt, vI (xs (i + 2)).toInt, vI (xs (i + 3)).toInt] [vI z] dL_law_532 kL_64 ⟨rfl, rfl, rfl, (Nat.le_of_ble_eq_true rfl), (Nat.le_of_ble_eq_true rfl)⟩ rfl rfl rfl (Nat.le_of_ble_eq_true rfl) h1 (fun z' σ2 h2 => ?_)
  exact LW_eq 731 dL_law_535 (by decide) h2.1 (hk σ2 h2.2)
theorem lc_takes (hL : L ≤ 2560) (hi : i + 5 ≤ L) (hI : Inv σ) (hk : ∀ σ', Inv σ' → LW b L xs 731 i [] σ') : LW b L xs 540 i [] σ := by
  refine LW_x dL_law_540 ?_
  refine LW_arg 1 hL (by omega) dL_law_541 dL_law_542 dL_law_543 dL_law_544 dL_law_545 rfl ?_
  refine LW_arg 2 hL (by omega) dL_law_546 dL_law_547 dL_law_548 dL_law_549 dL_law_550 rfl ?_
  refine LW_call [vI (xs (i + 1)).toInt, vI (xs (i + 2)).toInt] [] dL_law_551 kL_65 ⟨rfl, rfl, rfl, (Nat.le_of_ble_eq_true rfl), (Nat.le_of_ble_eq_true rfl)⟩ rfl rfl rfl (Nat.le_of_ble_eq_true rfl) (pr_takes hI (i32_rng _) (i32_rng _)) (fun z σ1 h1 => ?_)
  refine LW_m dL_law_554 ?_
  refine LW_arg 1 hL (by omega) dL_law_555 dL_law_556 dL_law_557 dL_law_558 dL_law_559 rfl ?_
  refine LW_arg 2 hL (by omega) dL_law_560 dL_law_561 dL_law_562 dL_law_563 dL_law_564 rfl ?_
  refine LW_call [vI (xs (i + 1)).toInt, vI (xs (i + 2)).toInt] [vI z] dL_law_565 kL_68 ⟨rfl, rfl, rfl, (Nat.le_of_ble_eq_true rfl), (Nat.le_of_ble_eq_true rfl)⟩ rfl rfl rfl (Nat.le_of_ble_eq_true rfl) h1 (fun z' σ2 h2 => ?_)
  exact LW_eq 731 dL_law_568 (by decide) h2.1 (hk σ2 h2.2)
theorem lc_plan (hL : L ≤ 2560) (hi : i + 5 ≤ L) (hI : Inv σ) (hk : ∀ σ', Inv σ' → LW b L xs 731 i [] σ') : LW b L xs 573 i [] σ := by
  refine LW_x dL_law_573 ?_
  refine LW_arg 1 hL (by omega) dL_law_574 dL_law_575 dL_law_576 dL_law_577 dL_law_578 rfl ?_
  refine LW_call [vI (xs (i + 1)).toInt] [] dL_law_579 kL_69 ⟨rfl, rfl, rfl, (Nat.le_of_ble_eq_true rfl), (Nat.le_of_ble_eq_true rfl)⟩ rfl rfl rfl (Nat.le_of_ble_eq_true rfl) (pr_plan hI (i32_rng _)) (fun z σ1 h1 => ?_)
  refine LW_m dL_law_582 ?_
  refine LW_arg 1 hL (by omega) dL_law_583 dL_law_584 dL_law_585 dL_law_586 dL_law_587 rfl ?_
  refine LW_call [vI (xs (i + 1)).toInt] [vI z] dL_law_588 kL_72 ⟨rfl, rfl, rfl, (Nat.le_of_ble_eq_true rfl), (Nat.le_of_ble_eq_true rfl)⟩ rfl rfl rfl (Nat.le_of_ble_eq_true rfl) h1 (fun z' σ2 h2 => ?_)
  exact LW_eq 731 dL_law_591 (by decide) h2.1 (hk σ2 h2.2)
theorem lc_tray (hL : L ≤ 2560) (hi : i + 5 ≤ L) (hI : Inv σ) (hk : ∀ σ', Inv σ' → LW b L xs 731 i [] σ') : LW b L xs 596 i [] σ := by
  refine LW_x dL_law_596 ?_
  refine LW_arg 1 hL (by omega) dL_law_597 dL_law_598 dL_law_599 dL_law_600 dL_law_601 rfl ?_
  refine LW_arg 2 hL (by omega) dL_law_602 dL_law_603 dL_law_604 dL_law_605 dL_law_606 rfl ?_
  refine LW_call [vI (xs (i + 1)).toInt, vI (xs (i + 2)).toInt] [] dL_law_607 kL_73 ⟨rfl, rfl, rfl, (Nat.le_of_ble_eq_true rfl), (Nat.le_of_ble_eq_true rfl)⟩ rfl rfl rfl (Nat.le_of_ble_eq_true rfl) (pr_tray hI (i32_rng _) (i32_rng _)) (fun z σ1 h1 => ?_)
  refine LW_m dL_law_610 ?_
  refine LW_arg 1 hL (by omega) dL_law_611 dL_law_612 dL_law_613 dL_law_614 dL_law_615 rfl ?_
  refine LW_arg 2 hL (by omega) dL_law_616 dL_law_617 dL_law_618 dL_law_619 dL_law_620 rfl ?_
  refine LW_call [vI (xs (i + 1)).toInt, vI (xs (i + 2)).toInt] [vI z] dL_law_621 kL_76 ⟨rfl, rfl, rfl, (Nat.le_of_ble_eq_true rfl), (Nat.le_of_ble_eq_true rfl)⟩ rfl rfl rfl (Nat.le_of_ble_eq_true rfl) h1 (fun z' σ2 h2 => ?_)
  exact LW_eq 731 dL_law_624 (by decide) h2.1 (hk σ2 h2.2)
theorem lc_set (hL : L ≤ 2560) (hi : i + 5 ≤ L) (hI : Inv σ) (hk : ∀ σ', Inv σ' → LW b L xs 731 i [] σ') : LW b L xs 629 i [] σ := by
  refine LW_x dL_law_629 ?_
  refine LW_arg 1 hL (by omega) dL_law_630 dL_law_631 dL_law_632 dL_law_633 dL_law_634 rfl ?_
  refine LW_arg 2 hL (by omega) dL_law_635 dL_law_636 dL_law_637 dL_law_638 dL_law_639 rfl ?_
  refine LW_call [vI (xs (i + 1)).toInt, vI (xs (i + 2)).toInt] [] dL_law_640 kL_77 ⟨rfl, rfl, rfl, (Nat.le_of_ble_eq_true rfl), (Nat.le_of_ble_eq_true rfl)⟩ rfl rfl rfl (Nat.le_of_ble_eq_true rfl) (pr_set hI (i32_rng _) (i32_rng _)) (fun z σ1 h1 => ?_)
  refine LW_m dL_law_643 ?_
  refine LW_arg 1 hL (by omega) dL_law_644 dL_law_645 dL_law_646 dL_law_647 dL_law_648 rfl ?_
  refine LW_arg 2 hL (by omega) dL_law_649 dL_law_650 dL_law_651 dL_law_652 dL_law_653 rfl ?_
  refine LW_call [vI (xs (i + 1)).toInt, vI (xs (i + 2)).toInt] [vI z] dL_law_654 kL_80 ⟨rfl, rfl, rfl, (Nat.le_of_ble_eq_true rfl), (Nat.le_of_ble_eq_true rfl)⟩ rfl rfl rfl (Nat.le_of_ble_eq_true rfl) h1 (fun z' σ2 h2 => ?_)
  exact LW_eq 731 dL_law_657 (by decide) h2.1 (hk σ2 h2.2)
theorem lc_image (hL : L ≤ 2560) (hi : i + 5 ≤ L) (hI : Inv σ) (hk : ∀ σ', Inv σ' → LW b L xs 731 i [] σ') : LW b L xs 662 i [] σ := by
  refine LW_x dL_law_662 ?_
  refine LW_arg 1 hL (by omega) dL_law_663 dL_law_664 dL_law_665 dL_law_666 dL_law_667 rfl ?_
  refine LW_call [vI (xs (i + 1)).toInt] [] dL_law_668 kL_81 ⟨rfl, rfl, rfl, (Nat.le_of_ble_eq_true rfl), (Nat.le_of_ble_eq_true rfl)⟩ rfl rfl rfl (Nat.le_of_ble_eq_true rfl) (pr_image hI (i32_rng _)) (fun z σ1 h1 => ?_)
  refine LW_m dL_law_671 ?_
  refine LW_arg 1 hL (by omega) dL_law_672 dL_law_673 dL_law_674 dL_law_675 dL_law_676 rfl ?_
  refine LW_call [vI (xs (i + 1)).toInt] [vI z] dL_law_677 kL_84 ⟨rfl, rfl, rfl, (Nat.le_of_ble_eq_true rfl), (Nat.le_of_ble_eq_true rfl)⟩ rfl rfl rfl (Nat.le_of_ble_eq_true rfl) h1 (fun z' σ2 h2 => ?_)
  exact LW_eq 731 dL_law_680 (by decide) h2.1 (hk σ2 h2.2)
theorem lc_restore (hL : L ≤ 2560) (hi : i + 5 ≤ L) (hI : Inv σ) (hk : ∀ σ', Inv σ' → LW b L xs 731 i [] σ') : LW b L xs 685 i [] σ := by
  refine LW_x dL_law_685 ?_
  refine LW_arg 1 hL (by omega) dL_law_686 dL_law_687 dL_law_688 dL_law_689 dL_law_690 rfl ?_
  refine LW_call [vI (xs (i + 1)).toInt] [] dL_law_691 kL_85 ⟨rfl, rfl, rfl, (Nat.le_of_ble_eq_true rfl), (Nat.le_of_ble_eq_true rfl)⟩ rfl rfl rfl (Nat.le_of_ble_eq_true rfl) (pr_restore hI (i32_rng _)) (fun z σ1 h1 => ?_)
  refine LW_m dL_law_694 ?_
  refine LW_arg 1 hL (by omega) dL_law_695 dL_law_696 dL_law_697 dL_law_698 dL_law_699 rfl ?_
  refine LW_call [vI (xs (i + 1)).toInt] [vI z] dL_law_700 kL_88 ⟨rfl, rfl, rfl, (Nat.le_of_ble_eq_true rfl), (Nat.le_of_ble_eq_true rfl)⟩ rfl rfl rfl (Nat.le_of_ble_eq_true rfl) h1 (fun z' σ2 h2 => ?_)
  exact LW_eq 731 dL_law_703 (by decide) h2.1 (hk σ2 h2.2)
theorem lc_count (hL : L ≤ 2560) (hi : i + 5 ≤ L) (hI : Inv σ) (hk : ∀ σ', Inv σ' → LW b L xs 731 i [] σ') : LW b L xs 708 i [] σ := by
  refine LW_x dL_law_708 ?_
  refine LW_arg 1 hL (by omega) dL_law_709 dL_law_710 dL_law_711 dL_law_712 dL_law_713 rfl ?_
  refine LW_call [vI (xs (i + 1)).toInt] [] dL_law_714 kL_89 ⟨rfl, rfl, rfl, (Nat.le_of_ble_eq_true rfl), (Nat.le_of_ble_eq_true rfl)⟩ rfl rfl rfl (Nat.le_of_ble_eq_true rfl) (pr_count hI (i32_rng _)) (fun z σ1 h1 => ?_)
  refine LW_m dL_law_717 ?_
  refine LW_arg 1 hL (by omega) dL_law_718 dL_law_719 dL_law_720 dL_law_721 dL_law_722 rfl ?_
  refine LW_call [vI (xs (i + 1)).toInt] [vI z] dL_law_723 kL_92 ⟨rfl, rfl, rfl, (Nat.le_of_ble_eq_true rfl), (Nat.le_of_ble_eq_true rfl)⟩ rfl rfl rfl (Nat.le_of_ble_eq_true rfl) h1 (fun z' σ2 h2 => ?_)
  exact LW_eq 731 dL_law_726 (by decide) h2.1 (hk σ2 h2.2)
end LWL
theorem law_loop {b L : Nat} {xs : Nat → Int32} (hL : L ≤ 2560) : ∀ (n i : Nat) (σ : am_S), L < i + n → i ≤ 2600 → Inv σ → LW b L xs 18 i [] σ := by
  intro n
  induction n with
  | zero => intro i σ h1 h2 hI; exact LW_head hL h2 (fun _ => LW_end) (fun h => by exfalso; omega)
  | succ n ih =>
    intro i σ h1 h2 hI
    refine LW_head hL h2 (fun _ => LW_end) (fun h => ?_)
    have hk : ∀ σ', Inv σ' → LW b L xs 731 i [] σ' := fun σ' h' => LW_inc (ih (i + 5) σ' (by omega) (by omega) h')
    exact LW_disp hL (by omega) (hk σ hI) (lc_speed hL h hI hk) (lc_level hL h hI hk) (lc_gone hL h hI hk) (lc_see hL h hI hk) (lc_drop hL h hI hk) (lc_thing hL h hI hk) (lc_place hL h hI hk) (lc_reach hL h hI hk) (lc_beat hL h hI hk) (lc_lanes hL h hI hk) (lc_arm hL h hI hk) (lc_can hL h hI hk) (lc_takes hL h hI hk) (lc_plan hL h hI hk) (lc_tray hL h hI hk) (lc_set hL h hI hk) (lc_image hL h hI hk) (lc_restore hL h hI hk) (lc_count hL h hI hk)
