variable {SX : SXT}
def g_L_house_L273 (N : Nat) (Lc : Nat) (xs : Nat → Int32) (a2 : Int32) (p3_273 : Nat) (p4_273 : Int32) (p7_273 : Int32) (K412 : DS → DA) (X : Int32 → DS → DA) (s8_273 : Int32) (h : DS) : DA :=
if p7_273 ≤ s8_273 then (K412 h)
else (bd3 (g_L_cell N Lc xs (a2 + (2 : Int32)) h) fun v_284 h_284 =>
bo (nn (dR h_284 p3_273 12 15)) fun r_302 =>
bo (nA h_284 100 (6 : Int32)) fun h_309 =>
bd3 (g_L_between N (((v_284 * (s8_273 + (1 : Int32))) + ((337 : Int32) * s8_273)) >>> ((3 : Int32) &&& 31)) (0 : Int32) (9 : Int32) h_309) fun v_320 h_320 =>
bo (sA h_320 100 h_284.2.1.length (0 : Int32) v_320) fun h_323 =>
bd3 (g_L_between N (((v_284 * (s8_273 + (1 : Int32))) + ((337 : Int32) * s8_273)) >>> ((5 : Int32) &&& 31)) (0 : Int32) (9 : Int32) h_323) fun v_333 h_333 =>
bo (sA h_333 100 h_284.2.1.length (1 : Int32) v_333) fun h_336 =>
bd3 (g_L_between N (((v_284 * (s8_273 + (1 : Int32))) + ((337 : Int32) * s8_273)) >>> ((6 : Int32) &&& 31)) (0 : Int32) (9 : Int32) h_336) fun v_347 h_347 =>
bo (sA h_347 100 h_284.2.1.length (2 : Int32) v_347) fun h_350 =>
bo (sA h_350 100 h_284.2.1.length (3 : Int32) (1 : Int32)) fun h_354 =>
bo (sA h_354 100 h_284.2.1.length (4 : Int32) (0 : Int32)) fun h_358 =>
bo (sA h_358 100 h_284.2.1.length (5 : Int32) (0 : Int32)) fun h_362 =>
bo (sQ h_362 103 r_302 s8_273 h_284.2.1.length) fun h_363 =>
bo (nn (dR h_363 p3_273 12 15)) fun r_365 =>
bo (lQ h_363 103 r_365 s8_273) fun r_370 =>
bo (lA h_363 100 r_370 (0 : Int32)) fun a_377 =>
bo (lA h_363 100 r_370 (1 : Int32)) fun a_381 =>
bo (lA h_363 100 r_370 (2 : Int32)) fun a_385 =>
chk (isT h_363 11 0) <| bdX (f_X11_hearer N a_377 a_381 a_385 h_363.1) h_363 fun v_386 hh_386 => bnd (gs (f_X12_hearer N a_377 a_381 a_385) hh_386) fun h_386 =>
if v_386 = s8_273 then (bo (dI h_386 p3_273 12 7) fun a_398 =>
bo (wI h_386 p3_273 12 7 (a_398 + (1 : Int32))) fun h_403 =>
X ((s8_273 + 1)) h_403)
else (some (-1, h_386)))

def g_L_house_L428 (N : Nat) (Lc : Nat) (xs : Nat → Int32) (a2 : Int32) (p3_428 : Nat) (p4_428 : Int32) (p7_428 : Int32) (K562 : DS → DA) (X : Int32 → DS → DA) (s8_428 : Int32) (h : DS) : DA :=
if p7_428 ≤ s8_428 then (K562 h)
else (bd3 (g_L_cell N Lc xs (a2 + (3 : Int32)) h) fun v_439 h_439 =>
bo (nn (dR h_439 p3_428 12 16)) fun r_457 =>
bo (nA h_439 100 (5 : Int32)) fun h_463 =>
bd3 (g_L_between N (((v_439 * (s8_428 + (1 : Int32))) + ((347 : Int32) * s8_428)) >>> ((3 : Int32) &&& 31)) (0 : Int32) (9 : Int32) h_463) fun v_474 h_474 =>
bo (sA h_474 100 h_439.2.1.length (0 : Int32) v_474) fun h_477 =>
bd3 (g_L_between N (((v_439 * (s8_428 + (1 : Int32))) + ((347 : Int32) * s8_428)) >>> ((5 : Int32) &&& 31)) (1 : Int32) (40 : Int32) h_477) fun v_487 h_487 =>
bo (sA h_487 100 h_439.2.1.length (1 : Int32) v_487) fun h_490 =>
bd3 (g_L_between N (((v_439 * (s8_428 + (1 : Int32))) + ((347 : Int32) * s8_428)) >>> ((6 : Int32) &&& 31)) (0 : Int32) (30 : Int32) h_490) fun v_501 h_501 =>
bo (sA h_501 100 h_439.2.1.length (2 : Int32) v_501) fun h_504 =>
bo (sA h_504 100 h_439.2.1.length (3 : Int32) (0 : Int32)) fun h_508 =>
bo (sA h_508 100 h_439.2.1.length (4 : Int32) (0 : Int32)) fun h_512 =>
bo (sQ h_512 103 r_457 s8_428 h_439.2.1.length) fun h_513 =>
bo (nn (dR h_513 p3_428 12 16)) fun r_515 =>
bo (lQ h_513 103 r_515 s8_428) fun r_520 =>
bo (lA h_513 100 r_520 (0 : Int32)) fun a_527 =>
bo (lA h_513 100 r_520 (1 : Int32)) fun a_531 =>
bo (lA h_513 100 r_520 (2 : Int32)) fun a_535 =>
chk (isT h_513 11 0) <| bdX (f_X11_deed N a_527 a_531 a_535 h_513.1) h_513 fun v_536 hh_536 => bnd (gs (f_X12_deed N a_527 a_531 a_535) hh_536) fun h_536 =>
if v_536 = s8_428 then (bo (dI h_536 p3_428 12 8) fun a_548 =>
bo (wI h_536 p3_428 12 8 (a_548 + (1 : Int32))) fun h_553 =>
X ((s8_428 + 1)) h_553)
else (some (-1, h_536)))

def g_L_house_J258 (N : Nat) (Lc : Nat) (xs : Nat → Int32) (a2 : Int32)   (s3_258 : Nat) (s4_258 : Int32) (h : DS) : DA :=
bd3 (g_L_between N (s4_258 >>> ((3 : Int32) &&& 31)) (0 : Int32) (12 : Int32) h) fun v_265 h_265 =>
jt (fun Y a hz => g_L_house_L273 N Lc xs a2 s3_258 s4_258 v_265 (fun hk412 => bd3 (g_L_between N (s4_258 >>> ((6 : Int32) &&& 31)) (0 : Int32) (8 : Int32) hk412) fun v_420 h_420 =>
jt (fun Y a hz => g_L_house_L428 N Lc xs a2 s3_258 s4_258 v_420 (fun hk562 => bd3 (g_L_between N (s4_258 >>> ((4 : Int32) &&& 31)) (0 : Int32) (400 : Int32) hk562) fun v_578 h_578 =>
bo (wI h_578 s3_258 12 6 (((s4_258 >>> ((8 : Int32) &&& 31)) &&& (1 : Int32)) * v_578)) fun h_582 =>
bo (dI h_582 s3_258 12 6) fun a_589 =>
chk (isT h_582 11 0) <| bdX (f_X11_set N (0 : Int32) (0 : Int32) a_589 h_582.1) h_582 fun v_592 hh_592 => bnd (gs (f_X12_set N (0 : Int32) (0 : Int32) a_589) hh_592) fun h_592 =>
if v_592 = 0 then (some (-1, h_592))
else (bd3 (g_L_cell N Lc xs (a2 + (4 : Int32)) h_592) fun v_604 h_604 =>
bd3 (g_L_texts N s3_258 v_604 h_604) fun v_607 h_607 =>
if v_607 = 0 then (some (-1, h_607))
else (bd3 (g_L_cell N Lc xs (a2 + (5 : Int32)) h_607) fun v_620 h_620 =>
bo (wI h_620 s3_258 12 0 v_620) fun h_623 =>
bo (dI h_623 s3_258 12 0) fun a_628 =>
chk (isT h_623 11 0) <| bdX (f_X11_state N a_628 h_623.1) h_623 fun v_631 hh_631 => bnd (gs (f_X12_state N a_628) hh_631) fun h_631 =>
chk (decide (s3_258 < 2 ^ 31)) (some (nI s3_258, h_631))))) Y a hz) N (0) h_420) Y a hz) N (0) h_265

def g_L_house (N : Nat) (Lc : Nat) (xs : Nat → Int32) (a2 : Int32) (h : DS) : DA :=
bo (nO h 12 25) fun h_0 =>
bd3 (g_X12_init N h.2.1.length h_0) fun v_4 h_4 =>
bd3 (g_L_cell N Lc xs a2 h_4) fun v_10 h_10 =>
bd3 (g_L_cell N Lc xs (a2 + (1 : Int32)) h_10) fun v_19 h_19 =>
bo (nA h_19 100 (7 : Int32)) fun h_26 =>
bd3 (g_L_between N v_19 (0 : Int32) (4 : Int32) h_26) fun v_34 h_34 =>
bo (sA h_34 100 h_19.2.1.length (0 : Int32) v_34) fun h_37 =>
bd3 (g_L_between N (v_19 >>> ((3 : Int32) &&& 31)) (0 : Int32) (4 : Int32) h_37) fun v_46 h_46 =>
bo (sA h_46 100 h_19.2.1.length (1 : Int32) v_46) fun h_49 =>
bd3 (g_L_between N (v_19 >>> ((5 : Int32) &&& 31)) (0 : Int32) (9 : Int32) h_49) fun v_59 h_59 =>
bo (sA h_59 100 h_19.2.1.length (2 : Int32) v_59) fun h_62 =>
bd3 (g_L_between N (v_19 >>> ((6 : Int32) &&& 31)) (0 : Int32) (7 : Int32) h_62) fun v_73 h_73 =>
bo (sA h_73 100 h_19.2.1.length (3 : Int32) v_73) fun h_76 =>
bd3 (g_L_between N (v_19 >>> ((4 : Int32) &&& 31)) (3 : Int32) (9 : Int32) h_76) fun v_86 h_86 =>
bo (sA h_86 100 h_19.2.1.length (4 : Int32) v_86) fun h_89 =>
bd3 (g_L_between N (v_19 >>> ((7 : Int32) &&& 31)) (300 : Int32) (950 : Int32) h_89) fun v_103 h_103 =>
bo (sA h_103 100 h_19.2.1.length (5 : Int32) v_103) fun h_106 =>
bd3 (g_L_between N (v_19 >>> ((2 : Int32) &&& 31)) (200 : Int32) (700 : Int32) h_106) fun v_120 h_120 =>
bo (sA h_120 100 h_19.2.1.length (6 : Int32) v_120) fun h_123 =>
if ((v_10 >>> ((5 : Int32) &&& 31)) &&& (7 : Int32)) ≤ 0 then (g_L_house_J258 N Lc xs a2 h.2.1.length v_10 h_123)
else (bo (wR h_123 h.2.1.length 12 21 (some h_19.2.1.length)) fun h_139 =>
bo (nO h_139 13 4) fun h_143 =>
bd3 (g_J4_init_da8c8 N h_139.2.1.length h_143) fun v_147 h_147 =>
chk (isT h_147 13 h_139.2.1.length) <| bd3 (g_J4_append_15ec4 N h_139.2.1.length 1000210 h_147) fun v_152 h_152 =>
chk (decide (v_152 ≠ -1)) <| bnd v_152.toNatClampNeg fun r_152 =>
bo (lA h_152 100 h_19.2.1.length (0 : Int32)) fun a_158 =>
chk (isT h_152 13 r_152) <| bd3 (g_J4_append_bf812 N r_152 a_158 h_152) fun v_159 h_159 =>
chk (decide (v_159 ≠ -1)) <| bnd v_159.toNatClampNeg fun r_159 =>
chk (isT h_159 13 r_159) <| bd3 (g_J4_append_15ec4 N r_159 1000211 h_159) fun v_164 h_164 =>
chk (decide (v_164 ≠ -1)) <| bnd v_164.toNatClampNeg fun r_164 =>
bo (lA h_164 100 h_19.2.1.length (5 : Int32)) fun a_170 =>
chk (isT h_164 13 r_164) <| bd3 (g_J4_append_bf812 N r_164 a_170 h_164) fun v_171 h_171 =>
chk (decide (v_171 ≠ -1)) <| bnd v_171.toNatClampNeg fun r_171 =>
chk (isT h_171 13 r_171) <| bd3 (g_J4_append_15ec4 N r_171 1000212 h_171) fun v_176 h_176 =>
chk (decide (v_176 ≠ -1)) <| bnd v_176.toNatClampNeg fun r_176 =>
bo (lA h_176 100 h_19.2.1.length (3 : Int32)) fun a_182 =>
chk (isT h_176 13 r_176) <| bd3 (g_J4_append_bf812 N r_176 a_182 h_176) fun v_183 h_183 =>
chk (decide (v_183 ≠ -1)) <| bnd v_183.toNatClampNeg fun r_183 =>
chk (isT h_183 13 r_183) <| bd3 (g_J4_append_15ec4 N r_183 1000213 h_183) fun v_188 h_188 =>
chk (decide (v_188 ≠ -1)) <| bnd v_188.toNatClampNeg fun r_188 =>
bo (lA h_188 100 h_19.2.1.length (4 : Int32)) fun a_194 =>
chk (isT h_188 13 r_188) <| bd3 (g_J4_append_bf812 N r_188 a_194 h_188) fun v_195 h_195 =>
chk (decide (v_195 ≠ -1)) <| bnd v_195.toNatClampNeg fun r_195 =>
chk (isT h_195 13 r_195) <| bd3 (g_J4_append_15ec4 N r_195 1000214 h_195) fun v_200 h_200 =>
chk (decide (v_200 ≠ -1)) <| bnd v_200.toNatClampNeg fun r_200 =>
bo (lA h_200 100 h_19.2.1.length (6 : Int32)) fun a_207 =>
chk (isT h_200 13 r_200) <| bd3 (g_J4_append_bf812 N r_200 a_207 h_200) fun v_208 h_208 =>
chk (decide (v_208 ≠ -1)) <| bnd v_208.toNatClampNeg fun r_208 =>
chk (isT h_208 13 r_208) <| bd3 (g_J4_append_15ec4 N r_208 1000215 h_208) fun v_213 h_213 =>
chk (decide (v_213 ≠ -1)) <| bnd v_213.toNatClampNeg fun r_213 =>
bo (lA h_213 100 h_19.2.1.length (1 : Int32)) fun a_219 =>
chk (isT h_213 13 r_213) <| bd3 (g_J4_append_bf812 N r_213 a_219 h_213) fun v_220 h_220 =>
chk (decide (v_220 ≠ -1)) <| bnd v_220.toNatClampNeg fun r_220 =>
chk (isT h_220 13 r_220) <| bd3 (g_J4_append_15ec4 N r_220 1000216 h_220) fun v_225 h_225 =>
chk (decide (v_225 ≠ -1)) <| bnd v_225.toNatClampNeg fun r_225 =>
bo (lA h_225 100 h_19.2.1.length (2 : Int32)) fun a_231 =>
chk (isT h_225 13 r_225) <| bd3 (g_J4_append_bf812 N r_225 a_231 h_225) fun v_232 h_232 =>
chk (decide (v_232 ≠ -1)) <| bnd v_232.toNatClampNeg fun r_232 =>
chk (isT h_232 13 r_232) <| bd3 (g_J4_append_15ec4 N r_232 1000217 h_232) fun v_237 h_237 =>
chk (decide (v_237 ≠ -1)) <| bnd v_237.toNatClampNeg fun r_237 =>
chk (isT h_237 13 r_237) <| bd3 (g_J4_toString_0e30d N r_237 h_237) fun v_240 h_240 =>
chk (decide (v_240 ≠ -1)) <| bnd v_240.toNatClampNeg fun r_240 =>
bd3 (g_L_say N r_240 h_240) fun v_243 h_243 =>
chk (isT h_243 11 0) <| bdX (f_X11_text N (0 : Int32) h_243.1) h_243 fun v_248 hh_248 => bnd (gs (f_X12_text N (0 : Int32)) hh_248) fun h_248 =>
if v_248 = (6 : Int32) then (g_L_house_J258 N Lc xs a2 h.2.1.length v_10 h_248)
else (some (-1, h_248)))

set_option maxRecDepth 100000 in
set_option maxHeartbeats 4000000 in
theorem db_L_house_L273 (N d : Nat) (Lc : Nat) (xs : Nat → Int32) (a2 : Int32) (p3_273 : Nat) (p4_273 : Int32) (p7_273 : Int32) (K412 : DS → DA) (hK412 : ∀  (h : DS), DOk (some (Lc, xs)) (d + 11) m_L_house 412 [some (.ref 0), some (.ref 1003000), some (.int a2), some (.ref p3_273), some (.int p4_273), none, none, none, none, none] [] h (K412 h)) (X : Int32 → DS → DA) (hX : ∀ (a : Int32) (h : DS), DOk (some (Lc, xs)) (d + 11) m_L_house 273 [some (.ref 0), some (.ref 1003000), some (.int a2), some (.ref p3_273), some (.int p4_273), none, none, some (.int p7_273), some (.int a), none] [] h (X a h)) (s8_273 : Int32) (h : DS) : DOk (some (Lc, xs)) (d + 11) m_L_house 273 [some (.ref 0), some (.ref 1003000), some (.int a2), some (.ref p3_273), some (.int p4_273), none, none, some (.int p7_273), some (.int s8_273), none] [] h (g_L_house_L273 N Lc xs a2 p3_273 p4_273 p7_273 K412 X s8_273 h) := by
  unfold g_L_house_L273
  refine dk_iload 275 8 dL_house_273 rfl rfl ?_
  refine dk_iload 277 7 dL_house_275 rfl rfl ?_
  refine dk_icmp_ge 412 280 dL_house_277 (by decide) rfl (fun _ => ?_) (fun _ => ?_)
  · exact dk_less [some (.ref 0), some (.ref 1003000), some (.int a2), some (.ref p3_273), some (.int p4_273), none, none, none, none, none] (And.intro rfl (And.intro rfl (And.intro rfl (And.intro rfl (And.intro rfl (trivial)))))) (hK412 h)
  · refine dk_aload_n 281 1 dL_house_280 rfl rfl rfl ?_
    refine dk_iload_n 282 2 dL_house_281 rfl rfl rfl ?_
    refine dk_iconst 283 2 dL_house_282 rfl rfl ?_
    refine dk_iadd 284 dL_house_283 rfl ?_
    refine dk_callS (np := 2) (M' := m_L_cell) (As := [.ref 1003000, .int (a2 + (2 : Int32))]) (st := []) 287 dL_house_284 rfl rfl km_L_cell ks_L_cell ml_EncoresLaw_124 (by decide) rfl rfl (Nat.le_of_ble_eq_true rfl) (dc_L_cell N (d + 10) Lc xs (a2 + (2 : Int32)) h) (fun v_284 h_284 e_284 => ?_)
    show DOk _ _ _ _ _ (.int v_284 :: []) _ _
    refine dk_iload 289 8 dL_house_287 rfl rfl ?_
    refine dk_iconst 290 1 dL_house_289 rfl rfl ?_
    refine dk_iadd 291 dL_house_290 rfl ?_
    refine dk_imul 292 dL_house_291 rfl ?_
    refine dk_sipush 295 337 dL_house_292 rfl rfl ?_
    refine dk_iload 297 8 dL_house_295 rfl rfl ?_
    refine dk_imul 298 dL_house_297 rfl ?_
    refine dk_iadd 299 dL_house_298 rfl ?_
    refine dk_istore 301 5 [some (.ref 0), some (.ref 1003000), some (.int a2), some (.ref p3_273), some (.int p4_273), some (.int ((v_284 * (s8_273 + (1 : Int32))) + ((337 : Int32) * s8_273))), none, some (.int p7_273), some (.int s8_273), none] dL_house_299 rfl (by decide) rfl ?_
    refine dk_aload_n 302 3 dL_house_301 rfl rfl rfl ?_
    refine dk_getRN 305 dL_house_302 rfl rfl FN_EncoresLaw_147 (fun r_302 _ => ?_)
    refine dk_iload 307 8 dL_house_305 rfl rfl ?_
    refine dk_bipush 309 6 dL_house_307 rfl rfl ?_
    refine dk_newaI 311 dL_house_309 rfl (fun h_309 _ => ?_)
    refine dk_dup 312 dL_house_311 rfl rfl ?_
    refine dk_iconst 313 0 dL_house_312 rfl rfl ?_
    refine dk_iload 315 5 dL_house_313 rfl rfl ?_
    refine dk_iconst 316 3 dL_house_315 rfl rfl ?_
    refine dk_ishr 317 dL_house_316 rfl ?_
    refine dk_iconst 318 0 dL_house_317 rfl rfl ?_
    refine dk_bipush 320 9 dL_house_318 rfl rfl ?_
    refine dk_callS (np := 3) (M' := m_L_between) (As := [.int (((v_284 * (s8_273 + (1 : Int32))) + ((337 : Int32) * s8_273)) >>> ((3 : Int32) &&& 31)), .int 0, .int 9]) (st := [.int 0, .ref h_284.2.1.length, .ref h_284.2.1.length, .int s8_273, .ref r_302]) 323 dL_house_320 rfl rfl km_L_between ks_L_between ml_EncoresLaw_37 (by decide) rfl rfl (Nat.le_of_ble_eq_true rfl) (dc_L_between N (d + 10) (((v_284 * (s8_273 + (1 : Int32))) + ((337 : Int32) * s8_273)) >>> ((3 : Int32) &&& 31)) (0 : Int32) (9 : Int32) h_309) (fun v_320 h_320 e_320 => ?_)
    show DOk _ _ _ _ _ (.int v_320 :: [.int 0, .ref h_284.2.1.length, .ref h_284.2.1.length, .int s8_273, .ref r_302]) _ _
    refine dk_iast 324 dL_house_323 rfl (fun h_323 _ => ?_)
    refine dk_dup 325 dL_house_324 rfl rfl ?_
    refine dk_iconst 326 1 dL_house_325 rfl rfl ?_
    refine dk_iload 328 5 dL_house_326 rfl rfl ?_
    refine dk_iconst 329 5 dL_house_328 rfl rfl ?_
    refine dk_ishr 330 dL_house_329 rfl ?_
    refine dk_iconst 331 0 dL_house_330 rfl rfl ?_
    refine dk_bipush 333 9 dL_house_331 rfl rfl ?_
    refine dk_callS (np := 3) (M' := m_L_between) (As := [.int (((v_284 * (s8_273 + (1 : Int32))) + ((337 : Int32) * s8_273)) >>> ((5 : Int32) &&& 31)), .int 0, .int 9]) (st := [.int 1, .ref h_284.2.1.length, .ref h_284.2.1.length, .int s8_273, .ref r_302]) 336 dL_house_333 rfl rfl km_L_between ks_L_between ml_EncoresLaw_37 (by decide) rfl rfl (Nat.le_of_ble_eq_true rfl) (dc_L_between N (d + 10) (((v_284 * (s8_273 + (1 : Int32))) + ((337 : Int32) * s8_273)) >>> ((5 : Int32) &&& 31)) (0 : Int32) (9 : Int32) h_323) (fun v_333 h_333 e_333 => ?_)
    show DOk _ _ _ _ _ (.int v_333 :: [.int 1, .ref h_284.2.1.length, .ref h_284.2.1.length, .int s8_273, .ref r_302]) _ _
    refine dk_iast 337 dL_house_336 rfl (fun h_336 _ => ?_)
    refine dk_dup 338 dL_house_337 rfl rfl ?_
    refine dk_iconst 339 2 dL_house_338 rfl rfl ?_
    refine dk_iload 341 5 dL_house_339 rfl rfl ?_
    refine dk_bipush 343 6 dL_house_341 rfl rfl ?_
    refine dk_ishr 344 dL_house_343 rfl ?_
    refine dk_iconst 345 0 dL_house_344 rfl rfl ?_
    refine dk_bipush 347 9 dL_house_345 rfl rfl ?_
    refine dk_callS (np := 3) (M' := m_L_between) (As := [.int (((v_284 * (s8_273 + (1 : Int32))) + ((337 : Int32) * s8_273)) >>> ((6 : Int32) &&& 31)), .int 0, .int 9]) (st := [.int 2, .ref h_284.2.1.length, .ref h_284.2.1.length, .int s8_273, .ref r_302]) 350 dL_house_347 rfl rfl km_L_between ks_L_between ml_EncoresLaw_37 (by decide) rfl rfl (Nat.le_of_ble_eq_true rfl) (dc_L_between N (d + 10) (((v_284 * (s8_273 + (1 : Int32))) + ((337 : Int32) * s8_273)) >>> ((6 : Int32) &&& 31)) (0 : Int32) (9 : Int32) h_336) (fun v_347 h_347 e_347 => ?_)
    show DOk _ _ _ _ _ (.int v_347 :: [.int 2, .ref h_284.2.1.length, .ref h_284.2.1.length, .int s8_273, .ref r_302]) _ _
    refine dk_iast 351 dL_house_350 rfl (fun h_350 _ => ?_)
    refine dk_dup 352 dL_house_351 rfl rfl ?_
    refine dk_iconst 353 3 dL_house_352 rfl rfl ?_
    refine dk_iconst 354 1 dL_house_353 rfl rfl ?_
    refine dk_iast 355 dL_house_354 rfl (fun h_354 _ => ?_)
    refine dk_dup 356 dL_house_355 rfl rfl ?_
    refine dk_iconst 357 4 dL_house_356 rfl rfl ?_
    refine dk_iconst 358 0 dL_house_357 rfl rfl ?_
    refine dk_iast 359 dL_house_358 rfl (fun h_358 _ => ?_)
    refine dk_dup 360 dL_house_359 rfl rfl ?_
    refine dk_iconst 361 5 dL_house_360 rfl rfl ?_
    refine dk_iconst 362 0 dL_house_361 rfl rfl ?_
    refine dk_iast 363 dL_house_362 rfl (fun h_362 _ => ?_)
    refine dk_aast 103 364 (Or.inl rfl) dL_house_363 rfl (fun h_363 _ => ?_)
    refine dk_aload_n 365 3 dL_house_364 rfl rfl rfl ?_
    refine dk_getRN 368 dL_house_365 rfl rfl FN_EncoresLaw_147 (fun r_365 _ => ?_)
    refine dk_iload 370 8 dL_house_368 rfl rfl ?_
    refine dk_aald 103 371 (Or.inl rfl) dL_house_370 rfl (fun r_370 _ => ?_)
    refine dk_astore 373 9 [some (.ref 0), some (.ref 1003000), some (.int a2), some (.ref p3_273), some (.int p4_273), some (.int ((v_284 * (s8_273 + (1 : Int32))) + ((337 : Int32) * s8_273))), none, some (.int p7_273), some (.int s8_273), some (.ref r_370)] dL_house_371 rfl (by decide) rfl ?_
    refine dk_aload_n 374 0 dL_house_373 rfl rfl rfl ?_
    refine dk_aload 376 9 dL_house_374 rfl rfl ?_
    refine dk_iconst 377 0 dL_house_376 rfl rfl ?_
    refine dk_iald 378 dL_house_377 rfl (fun a_377 _ => ?_)
    refine dk_aload 380 9 dL_house_378 rfl rfl ?_
    refine dk_iconst 381 1 dL_house_380 rfl rfl ?_
    refine dk_iald 382 dL_house_381 rfl (fun a_381 _ => ?_)
    refine dk_aload 384 9 dL_house_382 rfl rfl ?_
    refine dk_iconst 385 2 dL_house_384 rfl rfl ?_
    refine dk_iald 386 dL_house_385 rfl (fun a_385 _ => ?_)
    refine dk_callXV (np := 3) (M' := m_X11_hearer) (As := [.int a_377, .int a_381, .int a_385]) (st := []) 389 dL_house_386 rfl rfl km_X11_hearer ki_X11_hearer kv_X11_hearer ml_EncoresLaw_150 (by decide) rfl rfl rfl (fun k hk => by simp at hk) (Nat.le_of_ble_eq_true rfl) (c_X11_hearer N (d + 9) a_377 a_381 a_385 h_363.1) (fun _ h => by cases h; exact pr_int) (fun v_386 n_386 e_386 => ?_)
    generalize pat h_363 n_386 = hh_386
    refine dk_gs (fun h_386 _ => ?_)
    show DOk _ _ _ _ _ (.int v_386 :: []) _ _
    refine dk_iload 391 8 dL_house_389 rfl rfl ?_
    refine dk_icmp_eq 396 394 dL_house_391 (by decide) rfl (fun _ => ?_) (fun _ => ?_)
    · refine dk_aload_n 397 3 dL_house_396 rfl rfl rfl ?_
      refine dk_dup 398 dL_house_397 rfl rfl ?_
      refine dk_getIN 401 dL_house_398 rfl rfl FN_EncoresLaw_62 (fun a_398 _ => ?_)
      refine dk_iconst 402 1 dL_house_401 rfl rfl ?_
      refine dk_iadd 403 dL_house_402 rfl ?_
      refine dk_putIN 406 dL_house_403 rfl rfl FN_EncoresLaw_62 rfl pZ_12_7 rfl rfl (fun h_403 _ => ?_)
      refine dk_iinc 409 8 1 [some (.ref 0), some (.ref 1003000), some (.int a2), some (.ref p3_273), some (.int p4_273), some (.int ((v_284 * (s8_273 + (1 : Int32))) + ((337 : Int32) * s8_273))), none, some (.int p7_273), some (.int (s8_273 + 1)), some (.ref r_370)] dL_house_406 rfl rfl rfl (by decide) rfl ?_
      refine dk_goto 273 dL_house_409 (by decide) ?_
      exact dk_less [some (.ref 0), some (.ref 1003000), some (.int a2), some (.ref p3_273), some (.int p4_273), none, none, some (.int p7_273), some (.int (s8_273 + 1)), none] (And.intro rfl (And.intro rfl (And.intro rfl (And.intro rfl (And.intro rfl (And.intro rfl (And.intro rfl (trivial)))))))) (hX ((s8_273 + 1)) h_403)
    · refine dk_null 395 dL_house_394 rfl ?_
      exact dk_aretn dL_house_395 rfl (Or.inl ⟨_, rfl⟩)

set_option maxRecDepth 100000 in
set_option maxHeartbeats 4000000 in
theorem dl_L_house_L273 (N d : Nat) (Lc : Nat) (xs : Nat → Int32) (a2 : Int32) (p3_273 : Nat) (p4_273 : Int32) (p7_273 : Int32) (K412 : DS → DA) (hK412 : ∀  (h : DS), DOk (some (Lc, xs)) (d + 11) m_L_house 412 [some (.ref 0), some (.ref 1003000), some (.int a2), some (.ref p3_273), some (.int p4_273), none, none, none, none, none] [] h (K412 h)) : ∀ (n : Nat) (a : Int32) (h : DS), DOk (some (Lc, xs)) (d + 11) m_L_house 273 [some (.ref 0), some (.ref 1003000), some (.int a2), some (.ref p3_273), some (.int p4_273), none, none, some (.int p7_273), some (.int a), none] [] h (jt (fun Y a hz => g_L_house_L273 N Lc xs a2 p3_273 p4_273 p7_273 K412 Y a hz) n a h) :=
  dk_jt (fun a => [some (.ref 0), some (.ref 1003000), some (.int a2), some (.ref p3_273), some (.int p4_273), none, none, some (.int p7_273), some (.int a), none]) (fun X hX a h => db_L_house_L273 N d Lc xs a2 p3_273 p4_273 p7_273 K412 hK412 X hX a h)

set_option maxRecDepth 100000 in
set_option maxHeartbeats 4000000 in
theorem db_L_house_L428 (N d : Nat) (Lc : Nat) (xs : Nat → Int32) (a2 : Int32) (p3_428 : Nat) (p4_428 : Int32) (p7_428 : Int32) (K562 : DS → DA) (hK562 : ∀  (h : DS), DOk (some (Lc, xs)) (d + 11) m_L_house 562 [some (.ref 0), some (.ref 1003000), some (.int a2), some (.ref p3_428), some (.int p4_428), none, none, none, none, none] [] h (K562 h)) (X : Int32 → DS → DA) (hX : ∀ (a : Int32) (h : DS), DOk (some (Lc, xs)) (d + 11) m_L_house 428 [some (.ref 0), some (.ref 1003000), some (.int a2), some (.ref p3_428), some (.int p4_428), none, none, some (.int p7_428), some (.int a), none] [] h (X a h)) (s8_428 : Int32) (h : DS) : DOk (some (Lc, xs)) (d + 11) m_L_house 428 [some (.ref 0), some (.ref 1003000), some (.int a2), some (.ref p3_428), some (.int p4_428), none, none, some (.int p7_428), some (.int s8_428), none] [] h (g_L_house_L428 N Lc xs a2 p3_428 p4_428 p7_428 K562 X s8_428 h) := by
  unfold g_L_house_L428
  refine dk_iload 430 8 dL_house_428 rfl rfl ?_
  refine dk_iload 432 7 dL_house_430 rfl rfl ?_
  refine dk_icmp_ge 562 435 dL_house_432 (by decide) rfl (fun _ => ?_) (fun _ => ?_)
  · exact dk_less [some (.ref 0), some (.ref 1003000), some (.int a2), some (.ref p3_428), some (.int p4_428), none, none, none, none, none] (And.intro rfl (And.intro rfl (And.intro rfl (And.intro rfl (And.intro rfl (trivial)))))) (hK562 h)
  · refine dk_aload_n 436 1 dL_house_435 rfl rfl rfl ?_
    refine dk_iload_n 437 2 dL_house_436 rfl rfl rfl ?_
    refine dk_iconst 438 3 dL_house_437 rfl rfl ?_
    refine dk_iadd 439 dL_house_438 rfl ?_
    refine dk_callS (np := 2) (M' := m_L_cell) (As := [.ref 1003000, .int (a2 + (3 : Int32))]) (st := []) 442 dL_house_439 rfl rfl km_L_cell ks_L_cell ml_EncoresLaw_124 (by decide) rfl rfl (Nat.le_of_ble_eq_true rfl) (dc_L_cell N (d + 10) Lc xs (a2 + (3 : Int32)) h) (fun v_439 h_439 e_439 => ?_)
    show DOk _ _ _ _ _ (.int v_439 :: []) _ _
    refine dk_iload 444 8 dL_house_442 rfl rfl ?_
    refine dk_iconst 445 1 dL_house_444 rfl rfl ?_
    refine dk_iadd 446 dL_house_445 rfl ?_
    refine dk_imul 447 dL_house_446 rfl ?_
    refine dk_sipush 450 347 dL_house_447 rfl rfl ?_
    refine dk_iload 452 8 dL_house_450 rfl rfl ?_
    refine dk_imul 453 dL_house_452 rfl ?_
    refine dk_iadd 454 dL_house_453 rfl ?_
    refine dk_istore 456 5 [some (.ref 0), some (.ref 1003000), some (.int a2), some (.ref p3_428), some (.int p4_428), some (.int ((v_439 * (s8_428 + (1 : Int32))) + ((347 : Int32) * s8_428))), none, some (.int p7_428), some (.int s8_428), none] dL_house_454 rfl (by decide) rfl ?_
    refine dk_aload_n 457 3 dL_house_456 rfl rfl rfl ?_
    refine dk_getRN 460 dL_house_457 rfl rfl FN_EncoresLaw_153 (fun r_457 _ => ?_)
    refine dk_iload 462 8 dL_house_460 rfl rfl ?_
    refine dk_iconst 463 5 dL_house_462 rfl rfl ?_
    refine dk_newaI 465 dL_house_463 rfl (fun h_463 _ => ?_)
    refine dk_dup 466 dL_house_465 rfl rfl ?_
    refine dk_iconst 467 0 dL_house_466 rfl rfl ?_
    refine dk_iload 469 5 dL_house_467 rfl rfl ?_
    refine dk_iconst 470 3 dL_house_469 rfl rfl ?_
    refine dk_ishr 471 dL_house_470 rfl ?_
    refine dk_iconst 472 0 dL_house_471 rfl rfl ?_
    refine dk_bipush 474 9 dL_house_472 rfl rfl ?_
    refine dk_callS (np := 3) (M' := m_L_between) (As := [.int (((v_439 * (s8_428 + (1 : Int32))) + ((347 : Int32) * s8_428)) >>> ((3 : Int32) &&& 31)), .int 0, .int 9]) (st := [.int 0, .ref h_439.2.1.length, .ref h_439.2.1.length, .int s8_428, .ref r_457]) 477 dL_house_474 rfl rfl km_L_between ks_L_between ml_EncoresLaw_37 (by decide) rfl rfl (Nat.le_of_ble_eq_true rfl) (dc_L_between N (d + 10) (((v_439 * (s8_428 + (1 : Int32))) + ((347 : Int32) * s8_428)) >>> ((3 : Int32) &&& 31)) (0 : Int32) (9 : Int32) h_463) (fun v_474 h_474 e_474 => ?_)
    show DOk _ _ _ _ _ (.int v_474 :: [.int 0, .ref h_439.2.1.length, .ref h_439.2.1.length, .int s8_428, .ref r_457]) _ _
    refine dk_iast 478 dL_house_477 rfl (fun h_477 _ => ?_)
    refine dk_dup 479 dL_house_478 rfl rfl ?_
    refine dk_iconst 480 1 dL_house_479 rfl rfl ?_
    refine dk_iload 482 5 dL_house_480 rfl rfl ?_
    refine dk_iconst 483 5 dL_house_482 rfl rfl ?_
    refine dk_ishr 484 dL_house_483 rfl ?_
    refine dk_iconst 485 1 dL_house_484 rfl rfl ?_
    refine dk_bipush 487 40 dL_house_485 rfl rfl ?_
    refine dk_callS (np := 3) (M' := m_L_between) (As := [.int (((v_439 * (s8_428 + (1 : Int32))) + ((347 : Int32) * s8_428)) >>> ((5 : Int32) &&& 31)), .int 1, .int 40]) (st := [.int 1, .ref h_439.2.1.length, .ref h_439.2.1.length, .int s8_428, .ref r_457]) 490 dL_house_487 rfl rfl km_L_between ks_L_between ml_EncoresLaw_37 (by decide) rfl rfl (Nat.le_of_ble_eq_true rfl) (dc_L_between N (d + 10) (((v_439 * (s8_428 + (1 : Int32))) + ((347 : Int32) * s8_428)) >>> ((5 : Int32) &&& 31)) (1 : Int32) (40 : Int32) h_477) (fun v_487 h_487 e_487 => ?_)
    show DOk _ _ _ _ _ (.int v_487 :: [.int 1, .ref h_439.2.1.length, .ref h_439.2.1.length, .int s8_428, .ref r_457]) _ _
    refine dk_iast 491 dL_house_490 rfl (fun h_490 _ => ?_)
    refine dk_dup 492 dL_house_491 rfl rfl ?_
    refine dk_iconst 493 2 dL_house_492 rfl rfl ?_
    refine dk_iload 495 5 dL_house_493 rfl rfl ?_
    refine dk_bipush 497 6 dL_house_495 rfl rfl ?_
    refine dk_ishr 498 dL_house_497 rfl ?_
    refine dk_iconst 499 0 dL_house_498 rfl rfl ?_
    refine dk_bipush 501 30 dL_house_499 rfl rfl ?_
    refine dk_callS (np := 3) (M' := m_L_between) (As := [.int (((v_439 * (s8_428 + (1 : Int32))) + ((347 : Int32) * s8_428)) >>> ((6 : Int32) &&& 31)), .int 0, .int 30]) (st := [.int 2, .ref h_439.2.1.length, .ref h_439.2.1.length, .int s8_428, .ref r_457]) 504 dL_house_501 rfl rfl km_L_between ks_L_between ml_EncoresLaw_37 (by decide) rfl rfl (Nat.le_of_ble_eq_true rfl) (dc_L_between N (d + 10) (((v_439 * (s8_428 + (1 : Int32))) + ((347 : Int32) * s8_428)) >>> ((6 : Int32) &&& 31)) (0 : Int32) (30 : Int32) h_490) (fun v_501 h_501 e_501 => ?_)
    show DOk _ _ _ _ _ (.int v_501 :: [.int 2, .ref h_439.2.1.length, .ref h_439.2.1.length, .int s8_428, .ref r_457]) _ _
    refine dk_iast 505 dL_house_504 rfl (fun h_504 _ => ?_)
    refine dk_dup 506 dL_house_505 rfl rfl ?_
    refine dk_iconst 507 3 dL_house_506 rfl rfl ?_
    refine dk_iconst 508 0 dL_house_507 rfl rfl ?_
    refine dk_iast 509 dL_house_508 rfl (fun h_508 _ => ?_)
    refine dk_dup 510 dL_house_509 rfl rfl ?_
    refine dk_iconst 511 4 dL_house_510 rfl rfl ?_
    refine dk_iconst 512 0 dL_house_511 rfl rfl ?_
    refine dk_iast 513 dL_house_512 rfl (fun h_512 _ => ?_)
    refine dk_aast 103 514 (Or.inl rfl) dL_house_513 rfl (fun h_513 _ => ?_)
    refine dk_aload_n 515 3 dL_house_514 rfl rfl rfl ?_
    refine dk_getRN 518 dL_house_515 rfl rfl FN_EncoresLaw_153 (fun r_515 _ => ?_)
    refine dk_iload 520 8 dL_house_518 rfl rfl ?_
    refine dk_aald 103 521 (Or.inl rfl) dL_house_520 rfl (fun r_520 _ => ?_)
    refine dk_astore 523 9 [some (.ref 0), some (.ref 1003000), some (.int a2), some (.ref p3_428), some (.int p4_428), some (.int ((v_439 * (s8_428 + (1 : Int32))) + ((347 : Int32) * s8_428))), none, some (.int p7_428), some (.int s8_428), some (.ref r_520)] dL_house_521 rfl (by decide) rfl ?_
    refine dk_aload_n 524 0 dL_house_523 rfl rfl rfl ?_
    refine dk_aload 526 9 dL_house_524 rfl rfl ?_
    refine dk_iconst 527 0 dL_house_526 rfl rfl ?_
    refine dk_iald 528 dL_house_527 rfl (fun a_527 _ => ?_)
    refine dk_aload 530 9 dL_house_528 rfl rfl ?_
    refine dk_iconst 531 1 dL_house_530 rfl rfl ?_
    refine dk_iald 532 dL_house_531 rfl (fun a_531 _ => ?_)
    refine dk_aload 534 9 dL_house_532 rfl rfl ?_
    refine dk_iconst 535 2 dL_house_534 rfl rfl ?_
    refine dk_iald 536 dL_house_535 rfl (fun a_535 _ => ?_)
    refine dk_callXV (np := 3) (M' := m_X11_deed) (As := [.int a_527, .int a_531, .int a_535]) (st := []) 539 dL_house_536 rfl rfl km_X11_deed ki_X11_deed kv_X11_deed ml_EncoresLaw_156 (by decide) rfl rfl rfl (fun k hk => by simp at hk) (Nat.le_of_ble_eq_true rfl) (c_X11_deed N (d + 9) a_527 a_531 a_535 h_513.1) (fun _ h => by cases h; exact pr_int) (fun v_536 n_536 e_536 => ?_)
    generalize pat h_513 n_536 = hh_536
    refine dk_gs (fun h_536 _ => ?_)
    show DOk _ _ _ _ _ (.int v_536 :: []) _ _
    refine dk_iload 541 8 dL_house_539 rfl rfl ?_
    refine dk_icmp_eq 546 544 dL_house_541 (by decide) rfl (fun _ => ?_) (fun _ => ?_)
    · refine dk_aload_n 547 3 dL_house_546 rfl rfl rfl ?_
      refine dk_dup 548 dL_house_547 rfl rfl ?_
      refine dk_getIN 551 dL_house_548 rfl rfl FN_EncoresLaw_103 (fun a_548 _ => ?_)
      refine dk_iconst 552 1 dL_house_551 rfl rfl ?_
      refine dk_iadd 553 dL_house_552 rfl ?_
      refine dk_putIN 556 dL_house_553 rfl rfl FN_EncoresLaw_103 rfl pZ_12_8 rfl rfl (fun h_553 _ => ?_)
      refine dk_iinc 559 8 1 [some (.ref 0), some (.ref 1003000), some (.int a2), some (.ref p3_428), some (.int p4_428), some (.int ((v_439 * (s8_428 + (1 : Int32))) + ((347 : Int32) * s8_428))), none, some (.int p7_428), some (.int (s8_428 + 1)), some (.ref r_520)] dL_house_556 rfl rfl rfl (by decide) rfl ?_
      refine dk_goto 428 dL_house_559 (by decide) ?_
      exact dk_less [some (.ref 0), some (.ref 1003000), some (.int a2), some (.ref p3_428), some (.int p4_428), none, none, some (.int p7_428), some (.int (s8_428 + 1)), none] (And.intro rfl (And.intro rfl (And.intro rfl (And.intro rfl (And.intro rfl (And.intro rfl (And.intro rfl (trivial)))))))) (hX ((s8_428 + 1)) h_553)
    · refine dk_null 545 dL_house_544 rfl ?_
      exact dk_aretn dL_house_545 rfl (Or.inl ⟨_, rfl⟩)

set_option maxRecDepth 100000 in
set_option maxHeartbeats 4000000 in
theorem dl_L_house_L428 (N d : Nat) (Lc : Nat) (xs : Nat → Int32) (a2 : Int32) (p3_428 : Nat) (p4_428 : Int32) (p7_428 : Int32) (K562 : DS → DA) (hK562 : ∀  (h : DS), DOk (some (Lc, xs)) (d + 11) m_L_house 562 [some (.ref 0), some (.ref 1003000), some (.int a2), some (.ref p3_428), some (.int p4_428), none, none, none, none, none] [] h (K562 h)) : ∀ (n : Nat) (a : Int32) (h : DS), DOk (some (Lc, xs)) (d + 11) m_L_house 428 [some (.ref 0), some (.ref 1003000), some (.int a2), some (.ref p3_428), some (.int p4_428), none, none, some (.int p7_428), some (.int a), none] [] h (jt (fun Y a hz => g_L_house_L428 N Lc xs a2 p3_428 p4_428 p7_428 K562 Y a hz) n a h) :=
  dk_jt (fun a => [some (.ref 0), some (.ref 1003000), some (.int a2), some (.ref p3_428), some (.int p4_428), none, none, some (.int p7_428), some (.int a), none]) (fun X hX a h => db_L_house_L428 N d Lc xs a2 p3_428 p4_428 p7_428 K562 hK562 X hX a h)

set_option maxRecDepth 100000 in
set_option maxHeartbeats 4000000 in
theorem dj_L_house_J258 (N d : Nat) (Lc : Nat) (xs : Nat → Int32) (a2 : Int32)   (s3_258 : Nat) (s4_258 : Int32) (h : DS) : DOk (some (Lc, xs)) (d + 11) m_L_house 258 [some (.ref 0), some (.ref 1003000), some (.int a2), some (.ref s3_258), some (.int s4_258), none, none, none, none, none] [] h (g_L_house_J258 N Lc xs a2 s3_258 s4_258 h) := by
  unfold g_L_house_J258
  refine dk_iload 260 4 dL_house_258 rfl rfl ?_
  refine dk_iconst 261 3 dL_house_260 rfl rfl ?_
  refine dk_ishr 262 dL_house_261 rfl ?_
  refine dk_iconst 263 0 dL_house_262 rfl rfl ?_
  refine dk_bipush 265 12 dL_house_263 rfl rfl ?_
  refine dk_callS (np := 3) (M' := m_L_between) (As := [.int (s4_258 >>> ((3 : Int32) &&& 31)), .int 0, .int 12]) (st := []) 268 dL_house_265 rfl rfl km_L_between ks_L_between ml_EncoresLaw_37 (by decide) rfl rfl (Nat.le_of_ble_eq_true rfl) (dc_L_between N (d + 10) (s4_258 >>> ((3 : Int32) &&& 31)) (0 : Int32) (12 : Int32) h) (fun v_265 h_265 e_265 => ?_)
  show DOk _ _ _ _ _ (.int v_265 :: []) _ _
  refine dk_istore 270 7 [some (.ref 0), some (.ref 1003000), some (.int a2), some (.ref s3_258), some (.int s4_258), none, none, some (.int v_265), none, none] dL_house_268 rfl (by decide) rfl ?_
  refine dk_iconst 271 0 dL_house_270 rfl rfl ?_
  refine dk_istore 273 8 [some (.ref 0), some (.ref 1003000), some (.int a2), some (.ref s3_258), some (.int s4_258), none, none, some (.int v_265), some (.int 0), none] dL_house_271 rfl (by decide) rfl ?_
  refine dk_less [some (.ref 0), some (.ref 1003000), some (.int a2), some (.ref s3_258), some (.int s4_258), none, none, some (.int v_265), some (.int 0), none] (And.intro rfl (And.intro rfl (And.intro rfl (And.intro rfl (And.intro rfl (And.intro rfl (And.intro rfl (trivial)))))))) ?_
  exact dl_L_house_L273 N d Lc xs a2 s3_258 s4_258 v_265 (fun hk412 => bd3 (g_L_between N (s4_258 >>> ((6 : Int32) &&& 31)) (0 : Int32) (8 : Int32) hk412) fun v_420 h_420 =>
jt (fun Y a hz => g_L_house_L428 N Lc xs a2 s3_258 s4_258 v_420 (fun hk562 => bd3 (g_L_between N (s4_258 >>> ((4 : Int32) &&& 31)) (0 : Int32) (400 : Int32) hk562) fun v_578 h_578 =>
bo (wI h_578 s3_258 12 6 (((s4_258 >>> ((8 : Int32) &&& 31)) &&& (1 : Int32)) * v_578)) fun h_582 =>
bo (dI h_582 s3_258 12 6) fun a_589 =>
chk (isT h_582 11 0) <| bdX (f_X11_set N (0 : Int32) (0 : Int32) a_589 h_582.1) h_582 fun v_592 hh_592 => bnd (gs (f_X12_set N (0 : Int32) (0 : Int32) a_589) hh_592) fun h_592 =>
if v_592 = 0 then (some (-1, h_592))
else (bd3 (g_L_cell N Lc xs (a2 + (4 : Int32)) h_592) fun v_604 h_604 =>
bd3 (g_L_texts N s3_258 v_604 h_604) fun v_607 h_607 =>
if v_607 = 0 then (some (-1, h_607))
else (bd3 (g_L_cell N Lc xs (a2 + (5 : Int32)) h_607) fun v_620 h_620 =>
bo (wI h_620 s3_258 12 0 v_620) fun h_623 =>
bo (dI h_623 s3_258 12 0) fun a_628 =>
chk (isT h_623 11 0) <| bdX (f_X11_state N a_628 h_623.1) h_623 fun v_631 hh_631 => bnd (gs (f_X12_state N a_628) hh_631) fun h_631 =>
chk (decide (s3_258 < 2 ^ 31)) (some (nI s3_258, h_631))))) Y a hz) N (0) h_420) (fun hk412 => by
      refine dk_iload 414 4 dL_house_412 rfl rfl ?_
      refine dk_bipush 416 6 dL_house_414 rfl rfl ?_
      refine dk_ishr 417 dL_house_416 rfl ?_
      refine dk_iconst 418 0 dL_house_417 rfl rfl ?_
      refine dk_bipush 420 8 dL_house_418 rfl rfl ?_
      refine dk_callS (np := 3) (M' := m_L_between) (As := [.int (s4_258 >>> ((6 : Int32) &&& 31)), .int 0, .int 8]) (st := []) 423 dL_house_420 rfl rfl km_L_between ks_L_between ml_EncoresLaw_37 (by decide) rfl rfl (Nat.le_of_ble_eq_true rfl) (dc_L_between N (d + 10) (s4_258 >>> ((6 : Int32) &&& 31)) (0 : Int32) (8 : Int32) hk412) (fun v_420 h_420 e_420 => ?_)
      show DOk _ _ _ _ _ (.int v_420 :: []) _ _
      refine dk_istore 425 7 [some (.ref 0), some (.ref 1003000), some (.int a2), some (.ref s3_258), some (.int s4_258), none, none, some (.int v_420), none, none] dL_house_423 rfl (by decide) rfl ?_
      refine dk_iconst 426 0 dL_house_425 rfl rfl ?_
      refine dk_istore 428 8 [some (.ref 0), some (.ref 1003000), some (.int a2), some (.ref s3_258), some (.int s4_258), none, none, some (.int v_420), some (.int 0), none] dL_house_426 rfl (by decide) rfl ?_
      refine dk_less [some (.ref 0), some (.ref 1003000), some (.int a2), some (.ref s3_258), some (.int s4_258), none, none, some (.int v_420), some (.int 0), none] (And.intro rfl (And.intro rfl (And.intro rfl (And.intro rfl (And.intro rfl (And.intro rfl (And.intro rfl (trivial)))))))) ?_
      exact dl_L_house_L428 N d Lc xs a2 s3_258 s4_258 v_420 (fun hk562 => bd3 (g_L_between N (s4_258 >>> ((4 : Int32) &&& 31)) (0 : Int32) (400 : Int32) hk562) fun v_578 h_578 =>
bo (wI h_578 s3_258 12 6 (((s4_258 >>> ((8 : Int32) &&& 31)) &&& (1 : Int32)) * v_578)) fun h_582 =>
bo (dI h_582 s3_258 12 6) fun a_589 =>
chk (isT h_582 11 0) <| bdX (f_X11_set N (0 : Int32) (0 : Int32) a_589 h_582.1) h_582 fun v_592 hh_592 => bnd (gs (f_X12_set N (0 : Int32) (0 : Int32) a_589) hh_592) fun h_592 =>
if v_592 = 0 then (some (-1, h_592))
else (bd3 (g_L_cell N Lc xs (a2 + (4 : Int32)) h_592) fun v_604 h_604 =>
bd3 (g_L_texts N s3_258 v_604 h_604) fun v_607 h_607 =>
if v_607 = 0 then (some (-1, h_607))
else (bd3 (g_L_cell N Lc xs (a2 + (5 : Int32)) h_607) fun v_620 h_620 =>
bo (wI h_620 s3_258 12 0 v_620) fun h_623 =>
bo (dI h_623 s3_258 12 0) fun a_628 =>
chk (isT h_623 11 0) <| bdX (f_X11_state N a_628 h_623.1) h_623 fun v_631 hh_631 => bnd (gs (f_X12_state N a_628) hh_631) fun h_631 =>
chk (decide (s3_258 < 2 ^ 31)) (some (nI s3_258, h_631))))) (fun hk562 => by
          refine dk_aload_n 563 3 dL_house_562 rfl rfl rfl ?_
          refine dk_iload 565 4 dL_house_563 rfl rfl ?_
          refine dk_bipush 567 8 dL_house_565 rfl rfl ?_
          refine dk_ishr 568 dL_house_567 rfl ?_
          refine dk_iconst 569 1 dL_house_568 rfl rfl ?_
          refine dk_iand 570 dL_house_569 rfl ?_
          refine dk_iload 572 4 dL_house_570 rfl rfl ?_
          refine dk_iconst 573 4 dL_house_572 rfl rfl ?_
          refine dk_ishr 574 dL_house_573 rfl ?_
          refine dk_iconst 575 0 dL_house_574 rfl rfl ?_
          refine dk_sipush 578 400 dL_house_575 rfl rfl ?_
          refine dk_callS (np := 3) (M' := m_L_between) (As := [.int (s4_258 >>> ((4 : Int32) &&& 31)), .int 0, .int 400]) (st := [.int ((s4_258 >>> ((8 : Int32) &&& 31)) &&& (1 : Int32)), .ref s3_258]) 581 dL_house_578 rfl rfl km_L_between ks_L_between ml_EncoresLaw_37 (by decide) rfl rfl (Nat.le_of_ble_eq_true rfl) (dc_L_between N (d + 10) (s4_258 >>> ((4 : Int32) &&& 31)) (0 : Int32) (400 : Int32) hk562) (fun v_578 h_578 e_578 => ?_)
          show DOk _ _ _ _ _ (.int v_578 :: [.int ((s4_258 >>> ((8 : Int32) &&& 31)) &&& (1 : Int32)), .ref s3_258]) _ _
          refine dk_imul 582 dL_house_581 rfl ?_
          refine dk_putIN 585 dL_house_582 rfl rfl FN_EncoresLaw_158 rfl pZ_12_6 rfl rfl (fun h_582 _ => ?_)
          refine dk_aload_n 586 0 dL_house_585 rfl rfl rfl ?_
          refine dk_iconst 587 0 dL_house_586 rfl rfl ?_
          refine dk_iconst 588 0 dL_house_587 rfl rfl ?_
          refine dk_aload_n 589 3 dL_house_588 rfl rfl rfl ?_
          refine dk_getIN 592 dL_house_589 rfl rfl FN_EncoresLaw_158 (fun a_589 _ => ?_)
          refine dk_callXV (np := 3) (M' := m_X11_set) (As := [.int 0, .int 0, .int a_589]) (st := []) 595 dL_house_592 rfl rfl km_X11_set ki_X11_set kv_X11_set ml_EncoresLaw_161 (by decide) rfl rfl rfl (fun k hk => by simp at hk) (Nat.le_of_ble_eq_true rfl) (c_X11_set N (d + 8) (0 : Int32) (0 : Int32) a_589 h_582.1) (fun _ h => by cases h; exact pr_bool) (fun v_592 n_592 e_592 => ?_)
          generalize pat h_582 n_592 = hh_592
          refine dk_gs (fun h_592 _ => ?_)
          show DOk _ _ _ _ _ (.int v_592 :: []) _ _
          refine dk_if_eq 613 598 dL_house_595 (by decide) rfl (fun _ => ?_) (fun _ => ?_)
          · refine dk_null 614 dL_house_613 rfl ?_
            exact dk_aretn dL_house_614 rfl (Or.inl ⟨_, rfl⟩)
          · refine dk_aload_n 599 0 dL_house_598 rfl rfl rfl ?_
            refine dk_aload_n 600 3 dL_house_599 rfl rfl rfl ?_
            refine dk_aload_n 601 1 dL_house_600 rfl rfl rfl ?_
            refine dk_iload_n 602 2 dL_house_601 rfl rfl rfl ?_
            refine dk_iconst 603 4 dL_house_602 rfl rfl ?_
            refine dk_iadd 604 dL_house_603 rfl ?_
            refine dk_callS (np := 2) (M' := m_L_cell) (As := [.ref 1003000, .int (a2 + (4 : Int32))]) (st := [.ref s3_258, .ref 0]) 607 dL_house_604 rfl rfl km_L_cell ks_L_cell ml_EncoresLaw_124 (by decide) rfl rfl (Nat.le_of_ble_eq_true rfl) (dc_L_cell N (d + 10) Lc xs (a2 + (4 : Int32)) h_592) (fun v_604 h_604 e_604 => ?_)
            show DOk _ _ _ _ _ (.int v_604 :: [.ref s3_258, .ref 0]) _ _
            refine dk_callS (np := 3) (M' := m_L_texts) (As := [.ref 0, .ref s3_258, .int v_604]) (st := []) 610 dL_house_607 rfl rfl km_L_texts ks_L_texts ml_EncoresLaw_165 (by decide) rfl rfl (Nat.le_of_ble_eq_true rfl) (dc_L_texts N (d + 0) s3_258 v_604 h_604) (fun v_607 h_607 e_607 => ?_)
            show DOk _ _ _ _ _ (.int v_607 :: []) _ _
            refine dk_if_ne 615 613 dL_house_610 (by decide) rfl (fun _ => ?_) (fun _ => ?_)
            · refine dk_aload_n 616 3 dL_house_615 rfl rfl rfl ?_
              refine dk_aload_n 617 1 dL_house_616 rfl rfl rfl ?_
              refine dk_iload_n 618 2 dL_house_617 rfl rfl rfl ?_
              refine dk_iconst 619 5 dL_house_618 rfl rfl ?_
              refine dk_iadd 620 dL_house_619 rfl ?_
              refine dk_callS (np := 2) (M' := m_L_cell) (As := [.ref 1003000, .int (a2 + (5 : Int32))]) (st := [.ref s3_258]) 623 dL_house_620 rfl rfl km_L_cell ks_L_cell ml_EncoresLaw_124 (by decide) rfl rfl (Nat.le_of_ble_eq_true rfl) (dc_L_cell N (d + 10) Lc xs (a2 + (5 : Int32)) h_607) (fun v_620 h_620 e_620 => ?_)
              show DOk _ _ _ _ _ (.int v_620 :: [.ref s3_258]) _ _
              refine dk_putIN 626 dL_house_623 rfl rfl FN_EncoresLaw_169 rfl pZ_12_0 rfl rfl (fun h_623 _ => ?_)
              refine dk_aload_n 627 0 dL_house_626 rfl rfl rfl ?_
              refine dk_aload_n 628 3 dL_house_627 rfl rfl rfl ?_
              refine dk_getIN 631 dL_house_628 rfl rfl FN_EncoresLaw_169 (fun a_628 _ => ?_)
              refine dk_callXV (np := 1) (M' := m_X11_state) (As := [.int a_628]) (st := []) 634 dL_house_631 rfl rfl km_X11_state ki_X11_state kv_X11_state ml_EncoresLaw_172 (by decide) rfl rfl rfl (fun k hk => by simp at hk) (Nat.le_of_ble_eq_true rfl) (c_X11_state N (d + 8) a_628 h_623.1) (fun _ h => by cases h; exact pr_int) (fun v_631 n_631 e_631 => ?_)
              generalize pat h_623 n_631 = hh_631
              refine dk_gs (fun h_631 _ => ?_)
              show DOk _ _ _ _ _ (.int v_631 :: []) _ _
              refine dk_pop 635 dL_house_634 rfl rfl ?_
              refine dk_aload_n 636 3 dL_house_635 rfl rfl rfl ?_
              exact dk_aret dL_house_636 rfl (Or.inl ⟨_, rfl⟩)
            · refine dk_null 614 dL_house_613 rfl ?_
              exact dk_aretn dL_house_614 rfl (Or.inl ⟨_, rfl⟩)) N (0) h_420) N (0) h_265

set_option maxRecDepth 100000 in
set_option maxHeartbeats 4000000 in
theorem dg_L_house (N d : Nat) (Lc : Nat) (xs : Nat → Int32) (a2 : Int32) (h : DS) : DOk (some (Lc, xs)) (d + 11) m_L_house 0 [some (.ref 0), some (.ref 1003000), some (.int a2), none, none, none, none, none, none, none] [] h (g_L_house N Lc xs a2 h) := by
  unfold g_L_house
  refine dk_new (ty := ty12) (ci := 12) 3 dL_house_0 rfl rfl kl_EncoresLaw_49 in_EncoresLaw_House wi_EncoresLaw_House (by decide) rfl ty12_ok dv_12 (fun h_0 _ => ?_)
  refine dk_dup 4 dL_house_3 rfl rfl ?_
  refine dk_callIN (np := 0) (M' := m_X12_init) (As := []) (st := [.ref h.2.1.length]) 7 5 dL_house_4 rfl rfl km_X12_init ki_X12_init rfl (by decide) rfl rfl rfl rfl (Nat.le_of_ble_eq_true rfl) (dc_X12_init N (d + 9) h.2.1.length h_0) (fun v_4 h_4 e_4 => ?_)
  refine dk_astore_n 8 3 [some (.ref 0), some (.ref 1003000), some (.int a2), some (.ref h.2.1.length), none, none, none, none, none, none] dL_house_7 rfl rfl (by decide) rfl ?_
  refine dk_aload_n 9 1 dL_house_8 rfl rfl rfl ?_
  refine dk_iload_n 10 2 dL_house_9 rfl rfl rfl ?_
  refine dk_callS (np := 2) (M' := m_L_cell) (As := [.ref 1003000, .int a2]) (st := []) 13 dL_house_10 rfl rfl km_L_cell ks_L_cell ml_EncoresLaw_124 (by decide) rfl rfl (Nat.le_of_ble_eq_true rfl) (dc_L_cell N (d + 10) Lc xs a2 h_4) (fun v_10 h_10 e_10 => ?_)
  show DOk _ _ _ _ _ (.int v_10 :: []) _ _
  refine dk_istore 15 4 [some (.ref 0), some (.ref 1003000), some (.int a2), some (.ref h.2.1.length), some (.int v_10), none, none, none, none, none] dL_house_13 rfl (by decide) rfl ?_
  refine dk_aload_n 16 1 dL_house_15 rfl rfl rfl ?_
  refine dk_iload_n 17 2 dL_house_16 rfl rfl rfl ?_
  refine dk_iconst 18 1 dL_house_17 rfl rfl ?_
  refine dk_iadd 19 dL_house_18 rfl ?_
  refine dk_callS (np := 2) (M' := m_L_cell) (As := [.ref 1003000, .int (a2 + (1 : Int32))]) (st := []) 22 dL_house_19 rfl rfl km_L_cell ks_L_cell ml_EncoresLaw_124 (by decide) rfl rfl (Nat.le_of_ble_eq_true rfl) (dc_L_cell N (d + 10) Lc xs (a2 + (1 : Int32)) h_10) (fun v_19 h_19 e_19 => ?_)
  show DOk _ _ _ _ _ (.int v_19 :: []) _ _
  refine dk_istore 24 5 [some (.ref 0), some (.ref 1003000), some (.int a2), some (.ref h.2.1.length), some (.int v_10), some (.int v_19), none, none, none, none] dL_house_22 rfl (by decide) rfl ?_
  refine dk_bipush 26 7 dL_house_24 rfl rfl ?_
  refine dk_newaI 28 dL_house_26 rfl (fun h_26 _ => ?_)
  refine dk_dup 29 dL_house_28 rfl rfl ?_
  refine dk_iconst 30 0 dL_house_29 rfl rfl ?_
  refine dk_iload 32 5 dL_house_30 rfl rfl ?_
  refine dk_iconst 33 0 dL_house_32 rfl rfl ?_
  refine dk_iconst 34 4 dL_house_33 rfl rfl ?_
  refine dk_callS (np := 3) (M' := m_L_between) (As := [.int v_19, .int 0, .int 4]) (st := [.int 0, .ref h_19.2.1.length, .ref h_19.2.1.length]) 37 dL_house_34 rfl rfl km_L_between ks_L_between ml_EncoresLaw_37 (by decide) rfl rfl (Nat.le_of_ble_eq_true rfl) (dc_L_between N (d + 10) v_19 (0 : Int32) (4 : Int32) h_26) (fun v_34 h_34 e_34 => ?_)
  show DOk _ _ _ _ _ (.int v_34 :: [.int 0, .ref h_19.2.1.length, .ref h_19.2.1.length]) _ _
  refine dk_iast 38 dL_house_37 rfl (fun h_37 _ => ?_)
  refine dk_dup 39 dL_house_38 rfl rfl ?_
  refine dk_iconst 40 1 dL_house_39 rfl rfl ?_
  refine dk_iload 42 5 dL_house_40 rfl rfl ?_
  refine dk_iconst 43 3 dL_house_42 rfl rfl ?_
  refine dk_ishr 44 dL_house_43 rfl ?_
  refine dk_iconst 45 0 dL_house_44 rfl rfl ?_
  refine dk_iconst 46 4 dL_house_45 rfl rfl ?_
  refine dk_callS (np := 3) (M' := m_L_between) (As := [.int (v_19 >>> ((3 : Int32) &&& 31)), .int 0, .int 4]) (st := [.int 1, .ref h_19.2.1.length, .ref h_19.2.1.length]) 49 dL_house_46 rfl rfl km_L_between ks_L_between ml_EncoresLaw_37 (by decide) rfl rfl (Nat.le_of_ble_eq_true rfl) (dc_L_between N (d + 10) (v_19 >>> ((3 : Int32) &&& 31)) (0 : Int32) (4 : Int32) h_37) (fun v_46 h_46 e_46 => ?_)
  show DOk _ _ _ _ _ (.int v_46 :: [.int 1, .ref h_19.2.1.length, .ref h_19.2.1.length]) _ _
  refine dk_iast 50 dL_house_49 rfl (fun h_49 _ => ?_)
  refine dk_dup 51 dL_house_50 rfl rfl ?_
  refine dk_iconst 52 2 dL_house_51 rfl rfl ?_
  refine dk_iload 54 5 dL_house_52 rfl rfl ?_
  refine dk_iconst 55 5 dL_house_54 rfl rfl ?_
  refine dk_ishr 56 dL_house_55 rfl ?_
  refine dk_iconst 57 0 dL_house_56 rfl rfl ?_
  refine dk_bipush 59 9 dL_house_57 rfl rfl ?_
  refine dk_callS (np := 3) (M' := m_L_between) (As := [.int (v_19 >>> ((5 : Int32) &&& 31)), .int 0, .int 9]) (st := [.int 2, .ref h_19.2.1.length, .ref h_19.2.1.length]) 62 dL_house_59 rfl rfl km_L_between ks_L_between ml_EncoresLaw_37 (by decide) rfl rfl (Nat.le_of_ble_eq_true rfl) (dc_L_between N (d + 10) (v_19 >>> ((5 : Int32) &&& 31)) (0 : Int32) (9 : Int32) h_49) (fun v_59 h_59 e_59 => ?_)
  show DOk _ _ _ _ _ (.int v_59 :: [.int 2, .ref h_19.2.1.length, .ref h_19.2.1.length]) _ _
  refine dk_iast 63 dL_house_62 rfl (fun h_62 _ => ?_)
  refine dk_dup 64 dL_house_63 rfl rfl ?_
  refine dk_iconst 65 3 dL_house_64 rfl rfl ?_
  refine dk_iload 67 5 dL_house_65 rfl rfl ?_
  refine dk_bipush 69 6 dL_house_67 rfl rfl ?_
  refine dk_ishr 70 dL_house_69 rfl ?_
  refine dk_iconst 71 0 dL_house_70 rfl rfl ?_
  refine dk_bipush 73 7 dL_house_71 rfl rfl ?_
  refine dk_callS (np := 3) (M' := m_L_between) (As := [.int (v_19 >>> ((6 : Int32) &&& 31)), .int 0, .int 7]) (st := [.int 3, .ref h_19.2.1.length, .ref h_19.2.1.length]) 76 dL_house_73 rfl rfl km_L_between ks_L_between ml_EncoresLaw_37 (by decide) rfl rfl (Nat.le_of_ble_eq_true rfl) (dc_L_between N (d + 10) (v_19 >>> ((6 : Int32) &&& 31)) (0 : Int32) (7 : Int32) h_62) (fun v_73 h_73 e_73 => ?_)
  show DOk _ _ _ _ _ (.int v_73 :: [.int 3, .ref h_19.2.1.length, .ref h_19.2.1.length]) _ _
  refine dk_iast 77 dL_house_76 rfl (fun h_76 _ => ?_)
  refine dk_dup 78 dL_house_77 rfl rfl ?_
  refine dk_iconst 79 4 dL_house_78 rfl rfl ?_
  refine dk_iload 81 5 dL_house_79 rfl rfl ?_
  refine dk_iconst 82 4 dL_house_81 rfl rfl ?_
  refine dk_ishr 83 dL_house_82 rfl ?_
  refine dk_iconst 84 3 dL_house_83 rfl rfl ?_
  refine dk_bipush 86 9 dL_house_84 rfl rfl ?_
  refine dk_callS (np := 3) (M' := m_L_between) (As := [.int (v_19 >>> ((4 : Int32) &&& 31)), .int 3, .int 9]) (st := [.int 4, .ref h_19.2.1.length, .ref h_19.2.1.length]) 89 dL_house_86 rfl rfl km_L_between ks_L_between ml_EncoresLaw_37 (by decide) rfl rfl (Nat.le_of_ble_eq_true rfl) (dc_L_between N (d + 10) (v_19 >>> ((4 : Int32) &&& 31)) (3 : Int32) (9 : Int32) h_76) (fun v_86 h_86 e_86 => ?_)
  show DOk _ _ _ _ _ (.int v_86 :: [.int 4, .ref h_19.2.1.length, .ref h_19.2.1.length]) _ _
  refine dk_iast 90 dL_house_89 rfl (fun h_89 _ => ?_)
  refine dk_dup 91 dL_house_90 rfl rfl ?_
  refine dk_iconst 92 5 dL_house_91 rfl rfl ?_
  refine dk_iload 94 5 dL_house_92 rfl rfl ?_
  refine dk_bipush 96 7 dL_house_94 rfl rfl ?_
  refine dk_ishr 97 dL_house_96 rfl ?_
  refine dk_sipush 100 300 dL_house_97 rfl rfl ?_
  refine dk_sipush 103 950 dL_house_100 rfl rfl ?_
  refine dk_callS (np := 3) (M' := m_L_between) (As := [.int (v_19 >>> ((7 : Int32) &&& 31)), .int 300, .int 950]) (st := [.int 5, .ref h_19.2.1.length, .ref h_19.2.1.length]) 106 dL_house_103 rfl rfl km_L_between ks_L_between ml_EncoresLaw_37 (by decide) rfl rfl (Nat.le_of_ble_eq_true rfl) (dc_L_between N (d + 10) (v_19 >>> ((7 : Int32) &&& 31)) (300 : Int32) (950 : Int32) h_89) (fun v_103 h_103 e_103 => ?_)
  show DOk _ _ _ _ _ (.int v_103 :: [.int 5, .ref h_19.2.1.length, .ref h_19.2.1.length]) _ _
  refine dk_iast 107 dL_house_106 rfl (fun h_106 _ => ?_)
  refine dk_dup 108 dL_house_107 rfl rfl ?_
  refine dk_bipush 110 6 dL_house_108 rfl rfl ?_
  refine dk_iload 112 5 dL_house_110 rfl rfl ?_
  refine dk_iconst 113 2 dL_house_112 rfl rfl ?_
  refine dk_ishr 114 dL_house_113 rfl ?_
  refine dk_sipush 117 200 dL_house_114 rfl rfl ?_
  refine dk_sipush 120 700 dL_house_117 rfl rfl ?_
  refine dk_callS (np := 3) (M' := m_L_between) (As := [.int (v_19 >>> ((2 : Int32) &&& 31)), .int 200, .int 700]) (st := [.int 6, .ref h_19.2.1.length, .ref h_19.2.1.length]) 123 dL_house_120 rfl rfl km_L_between ks_L_between ml_EncoresLaw_37 (by decide) rfl rfl (Nat.le_of_ble_eq_true rfl) (dc_L_between N (d + 10) (v_19 >>> ((2 : Int32) &&& 31)) (200 : Int32) (700 : Int32) h_106) (fun v_120 h_120 e_120 => ?_)
  show DOk _ _ _ _ _ (.int v_120 :: [.int 6, .ref h_19.2.1.length, .ref h_19.2.1.length]) _ _
  refine dk_iast 124 dL_house_123 rfl (fun h_123 _ => ?_)
  refine dk_astore 126 6 [some (.ref 0), some (.ref 1003000), some (.int a2), some (.ref h.2.1.length), some (.int v_10), some (.int v_19), some (.ref h_19.2.1.length), none, none, none] dL_house_124 rfl (by decide) rfl ?_
  refine dk_iload 128 4 dL_house_126 rfl rfl ?_
  refine dk_iconst 129 5 dL_house_128 rfl rfl ?_
  refine dk_ishr 130 dL_house_129 rfl ?_
  refine dk_bipush 132 7 dL_house_130 rfl rfl ?_
  refine dk_iand 133 dL_house_132 rfl ?_
  refine dk_if_le 258 136 dL_house_133 (by decide) rfl (fun _ => ?_) (fun _ => ?_)
  · exact dk_less [some (.ref 0), some (.ref 1003000), some (.int a2), some (.ref h.2.1.length), some (.int v_10), none, none, none, none, none] (And.intro rfl (And.intro rfl (And.intro rfl (And.intro rfl (And.intro rfl (trivial)))))) (dj_L_house_J258 N d Lc xs a2 h.2.1.length v_10 h_123)
  · refine dk_aload_n 137 3 dL_house_136 rfl rfl rfl ?_
    refine dk_aload 139 6 dL_house_137 rfl rfl ?_
    refine dk_putRN (o := (some h_19.2.1.length)) 142 dL_house_139 rfl rfl FN_EncoresLaw_128 rfl pZ_12_21 (fun q => nr_a q) (fun q => ft_a q) (fun h_139 _ => ?_)
    refine dk_aload_n 143 0 dL_house_142 rfl rfl rfl ?_
    refine dk_new (ty := ty13) (ci := 13) 146 dL_house_143 rfl rfl kl_EncoresLaw_43 in_java_lang_StringBuilder wi_java_lang_StringBuilder (by decide) rfl ty13_ok dv_13 (fun h_143 _ => ?_)
    refine dk_dup 147 dL_house_146 rfl rfl ?_
    refine dk_callI (np := 0) (M' := m_J4_init_da8c8) (As := []) (st := [.ref h_139.2.1.length, .ref 0]) 150 dL_house_147 rfl rfl km_J4_init_da8c8 ki_J4_init_da8c8 ml_EncoresLaw_45 (by decide) rfl rfl rfl rfl (Nat.le_of_ble_eq_true rfl) (dc_J4_init_da8c8 N (d + 8) h_139.2.1.length h_143) (fun v_147 h_147 e_147 => ?_)
    refine dk_ldcS 152 11 1000210 dL_house_150 rfl rfl rfl rfl ?_
    refine dk_callV (np := 1) (M' := m_J4_append_15ec4) (As := [.ref 1000210]) (st := [.ref 0]) 13 155 dL_house_152 rfl rfl km_J4_append_15ec4 ki_J4_append_15ec4 kv_J4_append_15ec4 ml_EncoresLaw_70 (by decide) (by decide) rfl rfl rfl (Nat.le_of_ble_eq_true rfl) (dc_J4_append_15ec4 N (d + 5) h_139.2.1.length 1000210 h_147) (fun v_152 h_152 e_152 => ?_)
    show DOk _ _ _ _ _ ((if v_152 = -1 then Value.null else .ref v_152.toNatClampNeg) :: [.ref 0]) _ _
    refine dk_rr (fun r_152 => ?_)
    refine dk_aload 157 6 dL_house_155 rfl rfl ?_
    refine dk_iconst 158 0 dL_house_157 rfl rfl ?_
    refine dk_iald 159 dL_house_158 rfl (fun a_158 _ => ?_)
    refine dk_callV (np := 1) (M' := m_J4_append_bf812) (As := [.int a_158]) (st := [.ref 0]) 13 162 dL_house_159 rfl rfl km_J4_append_bf812 ki_J4_append_bf812 kv_J4_append_bf812 ml_EncoresLaw_74 (by decide) (by decide) rfl rfl rfl (Nat.le_of_ble_eq_true rfl) (dc_J4_append_bf812 N (d + 5) r_152 a_158 h_152) (fun v_159 h_159 e_159 => ?_)
    show DOk _ _ _ _ _ ((if v_159 = -1 then Value.null else .ref v_159.toNatClampNeg) :: [.ref 0]) _ _
    refine dk_rr (fun r_159 => ?_)
    refine dk_ldcS 164 12 1000211 dL_house_162 rfl rfl rfl rfl ?_
    refine dk_callV (np := 1) (M' := m_J4_append_15ec4) (As := [.ref 1000211]) (st := [.ref 0]) 13 167 dL_house_164 rfl rfl km_J4_append_15ec4 ki_J4_append_15ec4 kv_J4_append_15ec4 ml_EncoresLaw_70 (by decide) (by decide) rfl rfl rfl (Nat.le_of_ble_eq_true rfl) (dc_J4_append_15ec4 N (d + 5) r_159 1000211 h_159) (fun v_164 h_164 e_164 => ?_)
    show DOk _ _ _ _ _ ((if v_164 = -1 then Value.null else .ref v_164.toNatClampNeg) :: [.ref 0]) _ _
    refine dk_rr (fun r_164 => ?_)
    refine dk_aload 169 6 dL_house_167 rfl rfl ?_
    refine dk_iconst 170 5 dL_house_169 rfl rfl ?_
    refine dk_iald 171 dL_house_170 rfl (fun a_170 _ => ?_)
    refine dk_callV (np := 1) (M' := m_J4_append_bf812) (As := [.int a_170]) (st := [.ref 0]) 13 174 dL_house_171 rfl rfl km_J4_append_bf812 ki_J4_append_bf812 kv_J4_append_bf812 ml_EncoresLaw_74 (by decide) (by decide) rfl rfl rfl (Nat.le_of_ble_eq_true rfl) (dc_J4_append_bf812 N (d + 5) r_164 a_170 h_164) (fun v_171 h_171 e_171 => ?_)
    show DOk _ _ _ _ _ ((if v_171 = -1 then Value.null else .ref v_171.toNatClampNeg) :: [.ref 0]) _ _
    refine dk_rr (fun r_171 => ?_)
    refine dk_ldcS 176 13 1000212 dL_house_174 rfl rfl rfl rfl ?_
    refine dk_callV (np := 1) (M' := m_J4_append_15ec4) (As := [.ref 1000212]) (st := [.ref 0]) 13 179 dL_house_176 rfl rfl km_J4_append_15ec4 ki_J4_append_15ec4 kv_J4_append_15ec4 ml_EncoresLaw_70 (by decide) (by decide) rfl rfl rfl (Nat.le_of_ble_eq_true rfl) (dc_J4_append_15ec4 N (d + 5) r_171 1000212 h_171) (fun v_176 h_176 e_176 => ?_)
    show DOk _ _ _ _ _ ((if v_176 = -1 then Value.null else .ref v_176.toNatClampNeg) :: [.ref 0]) _ _
    refine dk_rr (fun r_176 => ?_)
    refine dk_aload 181 6 dL_house_179 rfl rfl ?_
    refine dk_iconst 182 3 dL_house_181 rfl rfl ?_
    refine dk_iald 183 dL_house_182 rfl (fun a_182 _ => ?_)
    refine dk_callV (np := 1) (M' := m_J4_append_bf812) (As := [.int a_182]) (st := [.ref 0]) 13 186 dL_house_183 rfl rfl km_J4_append_bf812 ki_J4_append_bf812 kv_J4_append_bf812 ml_EncoresLaw_74 (by decide) (by decide) rfl rfl rfl (Nat.le_of_ble_eq_true rfl) (dc_J4_append_bf812 N (d + 5) r_176 a_182 h_176) (fun v_183 h_183 e_183 => ?_)
    show DOk _ _ _ _ _ ((if v_183 = -1 then Value.null else .ref v_183.toNatClampNeg) :: [.ref 0]) _ _
    refine dk_rr (fun r_183 => ?_)
    refine dk_ldcS 188 14 1000213 dL_house_186 rfl rfl rfl rfl ?_
    refine dk_callV (np := 1) (M' := m_J4_append_15ec4) (As := [.ref 1000213]) (st := [.ref 0]) 13 191 dL_house_188 rfl rfl km_J4_append_15ec4 ki_J4_append_15ec4 kv_J4_append_15ec4 ml_EncoresLaw_70 (by decide) (by decide) rfl rfl rfl (Nat.le_of_ble_eq_true rfl) (dc_J4_append_15ec4 N (d + 5) r_183 1000213 h_183) (fun v_188 h_188 e_188 => ?_)
    show DOk _ _ _ _ _ ((if v_188 = -1 then Value.null else .ref v_188.toNatClampNeg) :: [.ref 0]) _ _
    refine dk_rr (fun r_188 => ?_)
    refine dk_aload 193 6 dL_house_191 rfl rfl ?_
    refine dk_iconst 194 4 dL_house_193 rfl rfl ?_
    refine dk_iald 195 dL_house_194 rfl (fun a_194 _ => ?_)
    refine dk_callV (np := 1) (M' := m_J4_append_bf812) (As := [.int a_194]) (st := [.ref 0]) 13 198 dL_house_195 rfl rfl km_J4_append_bf812 ki_J4_append_bf812 kv_J4_append_bf812 ml_EncoresLaw_74 (by decide) (by decide) rfl rfl rfl (Nat.le_of_ble_eq_true rfl) (dc_J4_append_bf812 N (d + 5) r_188 a_194 h_188) (fun v_195 h_195 e_195 => ?_)
    show DOk _ _ _ _ _ ((if v_195 = -1 then Value.null else .ref v_195.toNatClampNeg) :: [.ref 0]) _ _
    refine dk_rr (fun r_195 => ?_)
    refine dk_ldcS 200 15 1000214 dL_house_198 rfl rfl rfl rfl ?_
    refine dk_callV (np := 1) (M' := m_J4_append_15ec4) (As := [.ref 1000214]) (st := [.ref 0]) 13 203 dL_house_200 rfl rfl km_J4_append_15ec4 ki_J4_append_15ec4 kv_J4_append_15ec4 ml_EncoresLaw_70 (by decide) (by decide) rfl rfl rfl (Nat.le_of_ble_eq_true rfl) (dc_J4_append_15ec4 N (d + 5) r_195 1000214 h_195) (fun v_200 h_200 e_200 => ?_)
    show DOk _ _ _ _ _ ((if v_200 = -1 then Value.null else .ref v_200.toNatClampNeg) :: [.ref 0]) _ _
    refine dk_rr (fun r_200 => ?_)
    refine dk_aload 205 6 dL_house_203 rfl rfl ?_
    refine dk_bipush 207 6 dL_house_205 rfl rfl ?_
    refine dk_iald 208 dL_house_207 rfl (fun a_207 _ => ?_)
    refine dk_callV (np := 1) (M' := m_J4_append_bf812) (As := [.int a_207]) (st := [.ref 0]) 13 211 dL_house_208 rfl rfl km_J4_append_bf812 ki_J4_append_bf812 kv_J4_append_bf812 ml_EncoresLaw_74 (by decide) (by decide) rfl rfl rfl (Nat.le_of_ble_eq_true rfl) (dc_J4_append_bf812 N (d + 5) r_200 a_207 h_200) (fun v_208 h_208 e_208 => ?_)
    show DOk _ _ _ _ _ ((if v_208 = -1 then Value.null else .ref v_208.toNatClampNeg) :: [.ref 0]) _ _
    refine dk_rr (fun r_208 => ?_)
    refine dk_ldcS 213 16 1000215 dL_house_211 rfl rfl rfl rfl ?_
    refine dk_callV (np := 1) (M' := m_J4_append_15ec4) (As := [.ref 1000215]) (st := [.ref 0]) 13 216 dL_house_213 rfl rfl km_J4_append_15ec4 ki_J4_append_15ec4 kv_J4_append_15ec4 ml_EncoresLaw_70 (by decide) (by decide) rfl rfl rfl (Nat.le_of_ble_eq_true rfl) (dc_J4_append_15ec4 N (d + 5) r_208 1000215 h_208) (fun v_213 h_213 e_213 => ?_)
    show DOk _ _ _ _ _ ((if v_213 = -1 then Value.null else .ref v_213.toNatClampNeg) :: [.ref 0]) _ _
    refine dk_rr (fun r_213 => ?_)
    refine dk_aload 218 6 dL_house_216 rfl rfl ?_
    refine dk_iconst 219 1 dL_house_218 rfl rfl ?_
    refine dk_iald 220 dL_house_219 rfl (fun a_219 _ => ?_)
    refine dk_callV (np := 1) (M' := m_J4_append_bf812) (As := [.int a_219]) (st := [.ref 0]) 13 223 dL_house_220 rfl rfl km_J4_append_bf812 ki_J4_append_bf812 kv_J4_append_bf812 ml_EncoresLaw_74 (by decide) (by decide) rfl rfl rfl (Nat.le_of_ble_eq_true rfl) (dc_J4_append_bf812 N (d + 5) r_213 a_219 h_213) (fun v_220 h_220 e_220 => ?_)
    show DOk _ _ _ _ _ ((if v_220 = -1 then Value.null else .ref v_220.toNatClampNeg) :: [.ref 0]) _ _
    refine dk_rr (fun r_220 => ?_)
    refine dk_ldcS 225 17 1000216 dL_house_223 rfl rfl rfl rfl ?_
    refine dk_callV (np := 1) (M' := m_J4_append_15ec4) (As := [.ref 1000216]) (st := [.ref 0]) 13 228 dL_house_225 rfl rfl km_J4_append_15ec4 ki_J4_append_15ec4 kv_J4_append_15ec4 ml_EncoresLaw_70 (by decide) (by decide) rfl rfl rfl (Nat.le_of_ble_eq_true rfl) (dc_J4_append_15ec4 N (d + 5) r_220 1000216 h_220) (fun v_225 h_225 e_225 => ?_)
    show DOk _ _ _ _ _ ((if v_225 = -1 then Value.null else .ref v_225.toNatClampNeg) :: [.ref 0]) _ _
    refine dk_rr (fun r_225 => ?_)
    refine dk_aload 230 6 dL_house_228 rfl rfl ?_
    refine dk_iconst 231 2 dL_house_230 rfl rfl ?_
    refine dk_iald 232 dL_house_231 rfl (fun a_231 _ => ?_)
    refine dk_callV (np := 1) (M' := m_J4_append_bf812) (As := [.int a_231]) (st := [.ref 0]) 13 235 dL_house_232 rfl rfl km_J4_append_bf812 ki_J4_append_bf812 kv_J4_append_bf812 ml_EncoresLaw_74 (by decide) (by decide) rfl rfl rfl (Nat.le_of_ble_eq_true rfl) (dc_J4_append_bf812 N (d + 5) r_225 a_231 h_225) (fun v_232 h_232 e_232 => ?_)
    show DOk _ _ _ _ _ ((if v_232 = -1 then Value.null else .ref v_232.toNatClampNeg) :: [.ref 0]) _ _
    refine dk_rr (fun r_232 => ?_)
    refine dk_ldcS 237 18 1000217 dL_house_235 rfl rfl rfl rfl ?_
    refine dk_callV (np := 1) (M' := m_J4_append_15ec4) (As := [.ref 1000217]) (st := [.ref 0]) 13 240 dL_house_237 rfl rfl km_J4_append_15ec4 ki_J4_append_15ec4 kv_J4_append_15ec4 ml_EncoresLaw_70 (by decide) (by decide) rfl rfl rfl (Nat.le_of_ble_eq_true rfl) (dc_J4_append_15ec4 N (d + 5) r_232 1000217 h_232) (fun v_237 h_237 e_237 => ?_)
    show DOk _ _ _ _ _ ((if v_237 = -1 then Value.null else .ref v_237.toNatClampNeg) :: [.ref 0]) _ _
    refine dk_rr (fun r_237 => ?_)
    refine dk_callV (np := 0) (M' := m_J4_toString_0e30d) (As := []) (st := [.ref 0]) 13 243 dL_house_240 rfl rfl km_J4_toString_0e30d ki_J4_toString_0e30d kv_J4_toString_0e30d ml_EncoresLaw_81 (by decide) (by decide) rfl rfl rfl (Nat.le_of_ble_eq_true rfl) (dc_J4_toString_0e30d N (d + 5) r_237 h_237) (fun v_240 h_240 e_240 => ?_)
    show DOk _ _ _ _ _ ((if v_240 = -1 then Value.null else .ref v_240.toNatClampNeg) :: [.ref 0]) _ _
    refine dk_rr (fun r_240 => ?_)
    refine dk_callS (np := 2) (M' := m_L_say) (As := [.ref 0, .ref r_240]) (st := []) 246 dL_house_243 rfl rfl km_L_say ks_L_say ml_EncoresLaw_95 (by decide) rfl rfl (Nat.le_of_ble_eq_true rfl) (dc_L_say N (d + 6) r_240 h_240) (fun v_243 h_243 e_243 => ?_)
    show DOk _ _ _ _ _ [] _ _
    refine dk_aload_n 247 0 dL_house_246 rfl rfl rfl ?_
    refine dk_iconst 248 0 dL_house_247 rfl rfl ?_
    refine dk_callXV (np := 1) (M' := m_X11_text) (As := [.int 0]) (st := []) 251 dL_house_248 rfl rfl km_X11_text ki_X11_text kv_X11_text ml_EncoresLaw_99 (by decide) rfl rfl rfl (fun k hk => by simp at hk) (Nat.le_of_ble_eq_true rfl) (c_X11_text N (d + 1) (0 : Int32) h_243.1) (fun _ h => by cases h; exact pr_int) (fun v_248 n_248 e_248 => ?_)
    generalize pat h_243 n_248 = hh_248
    refine dk_gs (fun h_248 _ => ?_)
    show DOk _ _ _ _ _ (.int v_248 :: []) _ _
    refine dk_bipush 253 6 dL_house_251 rfl rfl ?_
    refine dk_icmp_eq 258 256 dL_house_253 (by decide) rfl (fun _ => ?_) (fun _ => ?_)
    · exact dk_less [some (.ref 0), some (.ref 1003000), some (.int a2), some (.ref h.2.1.length), some (.int v_10), none, none, none, none, none] (And.intro rfl (And.intro rfl (And.intro rfl (And.intro rfl (And.intro rfl (trivial)))))) (dj_L_house_J258 N d Lc xs a2 h.2.1.length v_10 h_248)
    · refine dk_null 257 dL_house_256 rfl ?_
      exact dk_aretn dL_house_257 rfl (Or.inl ⟨_, rfl⟩)

theorem dc_L_house (N d : Nat) (Lc : Nat) (xs : Nat → Int32) (a2 : Int32) (h : DS) : DCM (some (Lc, xs)) (d + 11) m_L_house [.ref 0, .ref 1003000, .int a2] h (g_L_house N Lc xs a2 h) :=
  DCM.ofDOk km_L_house (by simp [Value.category]) (Nat.le_of_ble_eq_true rfl) (dg_L_house N d Lc xs a2 h)

