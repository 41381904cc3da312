variable {SX : SXT}
def g_L_texts_J318_55 (N : Nat) (a1 : Nat) (a2 : Int32) (p3_55 : Int32) (p4_55 : Nat) (p5_55 : Nat)  (K390 : Int32 → DS → DA) (X : (Int32 × Int32) → DS → DA) (s6_318 : Int32) (s7_318 : Int32) (s8_318 : Int32) (s9_318 : Int32) (h : DS) : DA :=
if s9_318 = (3 : Int32) then (bo (dI h a1 12 7) fun a_330 =>
bd3 (g_L_between N (s8_318 >>> ((5 : Int32) &&& 31)) (0 : Int32) (a_330 - (1 : Int32)) h) fun v_335 h_335 =>
bo (dI h_335 a1 12 12) fun a_342 =>
bo (wI h_335 a1 12 12 (a_342 ||| ((1 : Int32) <<< (v_335 &&& 31)))) fun h_350 =>
bo (nO h_350 13 4) fun h_355 =>
bd3 (g_J4_init_da8c8 N h_350.2.1.length h_355) fun v_359 h_359 =>
chk (isT h_359 13 h_350.2.1.length) <| bd3 (g_J4_append_15ec4 N h_350.2.1.length 1000205 h_359) fun v_364 h_364 =>
chk (decide (v_364 ≠ -1)) <| bnd v_364.toNatClampNeg fun r_364 =>
chk (isT h_364 13 r_364) <| bd3 (g_J4_append_bf812 N r_364 v_335 h_364) fun v_369 h_369 =>
chk (decide (v_369 ≠ -1)) <| bnd v_369.toNatClampNeg fun r_369 =>
chk (isT h_369 13 r_369) <| bd3 (g_J4_append_15ec4 N r_369 1000202 h_369) fun v_374 h_374 =>
chk (decide (v_374 ≠ -1)) <| bnd v_374.toNatClampNeg fun r_374 =>
chk (isT h_374 13 r_374) <| bd3 (g_J4_toString_0e30d N r_374 h_374) fun v_377 h_377 =>
chk (decide (v_377 ≠ -1)) <| bnd v_377.toNatClampNeg fun r_377 =>
chk (isT h_377 13 p4_55) <| bd3 (g_J4_append_15ec4 N p4_55 r_377 h_377) fun v_380 h_380 =>
chk (decide (v_380 ≠ -1)) <| bnd v_380.toNatClampNeg fun r_380 =>
X (s6_318, (s7_318 + 1)) h_380)
else (X (s6_318, (s7_318 + 1)) h)

def g_L_texts_J263_55 (N : Nat) (a1 : Nat) (a2 : Int32) (p3_55 : Int32) (p4_55 : Nat) (p5_55 : Nat)  (K390 : Int32 → DS → DA) (X : (Int32 × Int32) → DS → DA) (s6_263 : Int32) (s7_263 : Int32) (s8_263 : Int32) (s9_263 : Int32) (h : DS) : DA :=
if s9_263 = (2 : Int32) then (bd3 (g_L_between N (s8_263 >>> ((5 : Int32) &&& 31)) (60 : Int32) (600 : Int32) h) fun v_279 h_279 =>
bo (wI h_279 a1 12 11 v_279) fun h_282 =>
bo (nO h_282 13 4) fun h_287 =>
bd3 (g_J4_init_da8c8 N h_282.2.1.length h_287) fun v_291 h_291 =>
chk (isT h_291 13 h_282.2.1.length) <| bd3 (g_J4_append_15ec4 N h_282.2.1.length 1000204 h_291) fun v_296 h_296 =>
chk (decide (v_296 ≠ -1)) <| bnd v_296.toNatClampNeg fun r_296 =>
bo (dI h_296 a1 12 11) fun a_300 =>
chk (isT h_296 13 r_296) <| bd3 (g_J4_append_bf812 N r_296 a_300 h_296) fun v_303 h_303 =>
chk (decide (v_303 ≠ -1)) <| bnd v_303.toNatClampNeg fun r_303 =>
chk (isT h_303 13 r_303) <| bd3 (g_J4_append_15ec4 N r_303 1000202 h_303) fun v_308 h_308 =>
chk (decide (v_308 ≠ -1)) <| bnd v_308.toNatClampNeg fun r_308 =>
chk (isT h_308 13 r_308) <| bd3 (g_J4_toString_0e30d N r_308 h_308) fun v_311 h_311 =>
chk (decide (v_311 ≠ -1)) <| bnd v_311.toNatClampNeg fun r_311 =>
chk (isT h_311 13 p4_55) <| bd3 (g_J4_append_15ec4 N p4_55 r_311 h_311) fun v_314 h_314 =>
chk (decide (v_314 ≠ -1)) <| bnd v_314.toNatClampNeg fun r_314 =>
g_L_texts_J318_55 N a1 a2 p3_55 p4_55 p5_55 K390 X s6_263 s7_263 s8_263 s9_263 h_314)
else (g_L_texts_J318_55 N a1 a2 p3_55 p4_55 p5_55 K390 X s6_263 s7_263 s8_263 s9_263 h)

def g_L_texts_J210_55 (N : Nat) (a1 : Nat) (a2 : Int32) (p3_55 : Int32) (p4_55 : Nat) (p5_55 : Nat)  (K390 : Int32 → DS → DA) (X : (Int32 × Int32) → DS → DA) (s6_210 : Int32) (s7_210 : Int32) (s8_210 : Int32) (s9_210 : Int32) (h : DS) : DA :=
if s9_210 = (1 : Int32) then (bd3 (g_L_between N (s8_210 >>> ((5 : Int32) &&& 31)) (0 : Int32) (7 : Int32) h) fun v_224 h_224 =>
bo (wI h_224 a1 12 10 v_224) fun h_227 =>
bo (nO h_227 13 4) fun h_232 =>
bd3 (g_J4_init_da8c8 N h_227.2.1.length h_232) fun v_236 h_236 =>
chk (isT h_236 13 h_227.2.1.length) <| bd3 (g_J4_append_15ec4 N h_227.2.1.length 1000203 h_236) fun v_241 h_241 =>
chk (decide (v_241 ≠ -1)) <| bnd v_241.toNatClampNeg fun r_241 =>
bo (dI h_241 a1 12 10) fun a_245 =>
chk (isT h_241 13 r_241) <| bd3 (g_J4_append_bf812 N r_241 a_245 h_241) fun v_248 h_248 =>
chk (decide (v_248 ≠ -1)) <| bnd v_248.toNatClampNeg fun r_248 =>
chk (isT h_248 13 r_248) <| bd3 (g_J4_append_15ec4 N r_248 1000202 h_248) fun v_253 h_253 =>
chk (decide (v_253 ≠ -1)) <| bnd v_253.toNatClampNeg fun r_253 =>
chk (isT h_253 13 r_253) <| bd3 (g_J4_toString_0e30d N r_253 h_253) fun v_256 h_256 =>
chk (decide (v_256 ≠ -1)) <| bnd v_256.toNatClampNeg fun r_256 =>
chk (isT h_256 13 p4_55) <| bd3 (g_J4_append_15ec4 N p4_55 r_256 h_256) fun v_259 h_259 =>
chk (decide (v_259 ≠ -1)) <| bnd v_259.toNatClampNeg fun r_259 =>
g_L_texts_J263_55 N a1 a2 p3_55 p4_55 p5_55 K390 X s6_210 s7_210 s8_210 s9_210 h_259)
else (g_L_texts_J263_55 N a1 a2 p3_55 p4_55 p5_55 K390 X s6_210 s7_210 s8_210 s9_210 h)

def g_L_texts_J153_55 (N : Nat) (a1 : Nat) (a2 : Int32) (p3_55 : Int32) (p4_55 : Nat) (p5_55 : Nat)  (K390 : Int32 → DS → DA) (X : (Int32 × Int32) → DS → DA) (s6_153 : Int32) (s7_153 : Int32) (s8_153 : Int32) (s9_153 : Int32) (t0_153 : Int32) (t1_153 : Int32) (t2_153 : Int32) (t3_153 : Nat) (t4_153 : Nat) (t5_153 : Int32) (t6_153 : Nat) (h : DS) : DA :=
bo (sA h 100 t3_153 t2_153 (t1_153 - t0_153)) fun h_154 =>
bo (sQ h_154 103 t6_153 t5_153 t4_153) fun h_155 =>
bo (nO h_155 13 4) fun h_158 =>
bd3 (g_J4_init_da8c8 N h_155.2.1.length h_158) fun v_162 h_162 =>
chk (isT h_162 13 h_155.2.1.length) <| bd3 (g_J4_append_15ec4 N h_155.2.1.length 1000200 h_162) fun v_167 h_167 =>
chk (decide (v_167 ≠ -1)) <| bnd v_167.toNatClampNeg fun r_167 =>
bo (lQ h_167 103 p5_55 s6_153) fun r_174 =>
bo (lA h_167 100 r_174 (0 : Int32)) fun a_176 =>
chk (isT h_167 13 r_167) <| bd3 (g_J4_append_bf812 N r_167 a_176 h_167) fun v_177 h_177 =>
chk (decide (v_177 ≠ -1)) <| bnd v_177.toNatClampNeg fun r_177 =>
chk (isT h_177 13 r_177) <| bd3 (g_J4_append_15ec4 N r_177 1000201 h_177) fun v_182 h_182 =>
chk (decide (v_182 ≠ -1)) <| bnd v_182.toNatClampNeg fun r_182 =>
bo (lQ h_182 103 p5_55 s6_153) fun r_189 =>
bo (lA h_182 100 r_189 (1 : Int32)) fun a_191 =>
chk (isT h_182 13 r_182) <| bd3 (g_J4_append_bf812 N r_182 a_191 h_182) fun v_192 h_192 =>
chk (decide (v_192 ≠ -1)) <| bnd v_192.toNatClampNeg fun r_192 =>
chk (isT h_192 13 r_192) <| bd3 (g_J4_append_15ec4 N r_192 1000202 h_192) fun v_197 h_197 =>
chk (decide (v_197 ≠ -1)) <| bnd v_197.toNatClampNeg fun r_197 =>
chk (isT h_197 13 r_197) <| bd3 (g_J4_toString_0e30d N r_197 h_197) fun v_200 h_200 =>
chk (decide (v_200 ≠ -1)) <| bnd v_200.toNatClampNeg fun r_200 =>
chk (isT h_200 13 p4_55) <| bd3 (g_J4_append_15ec4 N p4_55 r_200 h_200) fun v_203 h_203 =>
chk (decide (v_203 ≠ -1)) <| bnd v_203.toNatClampNeg fun r_203 =>
g_L_texts_J210_55 N a1 a2 p3_55 p4_55 p5_55 K390 X (s6_153 + 1) s7_153 s8_153 s9_153 h_203

def g_L_texts_J93_55 (N : Nat) (a1 : Nat) (a2 : Int32) (p3_55 : Int32) (p4_55 : Nat) (p5_55 : Nat)  (K390 : Int32 → DS → DA) (X : (Int32 × Int32) → DS → DA) (s6_93 : Int32) (s7_93 : Int32) (s8_93 : Int32) (t0_93 : Int32) (t1_93 : Int32) (t2_93 : Int32) (h : DS) : DA :=
bd3 (g_L_between N t2_93 t1_93 t0_93 h) fun v_93 h_93 =>
if v_93 = 0 then (bo (nA h_93 100 (2 : Int32)) fun h_108 =>
bd3 (g_L_between N (s8_93 >>> ((4 : Int32) &&& 31)) (1 : Int32) (30 : Int32) h_108) fun v_119 h_119 =>
bo (sA h_119 100 h_93.2.1.length (0 : Int32) v_119) fun h_122 =>
bo (dI h_122 a1 12 2) fun a_126 =>
bd3 (g_L_between N (s8_93 >>> ((6 : Int32) &&& 31)) (0 : Int32) (4 : Int32) h_122) fun v_136 h_136 =>
bo (dI h_136 a1 12 2) fun a_141 =>
if a_141 ≤ (1 : Int32) then (g_L_texts_J153_55 N a1 a2 p3_55 p4_55 p5_55 K390 X s6_93 s7_93 s8_93 v_93 (0 : Int32) (a_126 + v_136) (1 : Int32) h_93.2.1.length h_93.2.1.length s6_93 p5_55 h_136)
else (g_L_texts_J153_55 N a1 a2 p3_55 p4_55 p5_55 K390 X s6_93 s7_93 s8_93 v_93 (2 : Int32) (a_126 + v_136) (1 : Int32) h_93.2.1.length h_93.2.1.length s6_93 p5_55 h_136))
else (g_L_texts_J210_55 N a1 a2 p3_55 p4_55 p5_55 K390 X s6_93 s7_93 s8_93 v_93 h_93)

def g_L_texts_L55 (N : Nat) (a1 : Nat) (a2 : Int32) (p3_55 : Int32) (p4_55 : Nat) (p5_55 : Nat) (K390 : Int32 → DS → DA) (X : (Int32 × Int32) → DS → DA) (s6_55 : Int32) (s7_55 : Int32) (h : DS) : DA :=
if p3_55 ≤ s7_55 then (K390 s6_55 h)
else (bo (dI h a1 12 7) fun a_82 =>
if a_82 = 0 then (g_L_texts_J93_55 N a1 a2 p3_55 p4_55 p5_55 K390 X s6_55 s7_55 ((a2 * (s7_55 + (3 : Int32))) + ((313 : Int32) * s7_55)) (2 : Int32) (0 : Int32) (((a2 * (s7_55 + (3 : Int32))) + ((313 : Int32) * s7_55)) >>> ((3 : Int32) &&& 31)) h)
else (g_L_texts_J93_55 N a1 a2 p3_55 p4_55 p5_55 K390 X s6_55 s7_55 ((a2 * (s7_55 + (3 : Int32))) + ((313 : Int32) * s7_55)) (3 : Int32) (0 : Int32) (((a2 * (s7_55 + (3 : Int32))) + ((313 : Int32) * s7_55)) >>> ((3 : Int32) &&& 31)) h))

def g_L_texts_L402 (N : Nat) (a1 : Nat) (a2 : Int32) (p3_402 : Int32) (p4_402 : Nat) (p5_402 : Nat) (p6_402 : Int32) (K427 : DS → DA) (X : Int32 → DS → DA) (s7_402 : Int32) (h : DS) : DA :=
if p6_402 ≤ s7_402 then (K427 h)
else (bo (nn (dR h a1 12 18)) fun r_410 =>
bo (lQ h 103 p5_402 s7_402) fun r_419 =>
bo (sQ h 103 r_410 s7_402 r_419) fun h_420 =>
X ((s7_402 + 1)) h_420)

def g_L_texts_L488 (N : Nat) (a1 : Nat) (a2 : Int32) (p3_488 : Int32) (p4_488 : Nat) (K612 : DS → DA) (X : Int32 → DS → DA) (s7_488 : Int32) (h : DS) : DA :=
if p3_488 ≤ s7_488 then (K612 h)
else (bo (nn (dR h a1 12 19)) fun r_510 =>
bo (nA h 100 (2 : Int32)) fun h_516 =>
bd3 (g_L_between N (((a2 * (s7_488 + (5 : Int32))) + ((317 : Int32) * s7_488)) >>> ((3 : Int32) &&& 31)) (0 : Int32) (250 : Int32) h_516) fun v_528 h_528 =>
bo (sA h_528 100 h.2.1.length (0 : Int32) v_528) fun h_531 =>
bo (dI h_531 a1 12 8) fun a_541 =>
bd3 (g_L_between N (((a2 * (s7_488 + (5 : Int32))) + ((317 : Int32) * s7_488)) >>> ((6 : Int32) &&& 31)) (0 : Int32) (a_541 - (1 : Int32)) h_531) fun v_546 h_546 =>
bo (sA h_546 100 h.2.1.length (1 : Int32) v_546) fun h_549 =>
bo (sQ h_549 103 r_510 s7_488 h.2.1.length) fun h_550 =>
bo (nO h_550 13 4) fun h_553 =>
bd3 (g_J4_init_da8c8 N h_550.2.1.length h_553) fun v_557 h_557 =>
chk (isT h_557 13 h_550.2.1.length) <| bd3 (g_J4_append_15ec4 N h_550.2.1.length 1000206 h_557) fun v_562 h_562 =>
chk (decide (v_562 ≠ -1)) <| bnd v_562.toNatClampNeg fun r_562 =>
bo (nn (dR h_562 a1 12 19)) fun r_566 =>
bo (lQ h_562 103 r_566 s7_488) fun r_571 =>
bo (lA h_562 100 r_571 (0 : Int32)) fun a_573 =>
chk (isT h_562 13 r_562) <| bd3 (g_J4_append_bf812 N r_562 a_573 h_562) fun v_574 h_574 =>
chk (decide (v_574 ≠ -1)) <| bnd v_574.toNatClampNeg fun r_574 =>
chk (isT h_574 13 r_574) <| bd3 (g_J4_append_15ec4 N r_574 1000207 h_574) fun v_579 h_579 =>
chk (decide (v_579 ≠ -1)) <| bnd v_579.toNatClampNeg fun r_579 =>
bo (nn (dR h_579 a1 12 19)) fun r_583 =>
bo (lQ h_579 103 r_583 s7_488) fun r_588 =>
bo (lA h_579 100 r_588 (1 : Int32)) fun a_590 =>
chk (isT h_579 13 r_579) <| bd3 (g_J4_append_bf812 N r_579 a_590 h_579) fun v_591 h_591 =>
chk (decide (v_591 ≠ -1)) <| bnd v_591.toNatClampNeg fun r_591 =>
chk (isT h_591 13 r_591) <| bd3 (g_J4_append_15ec4 N r_591 1000202 h_591) fun v_596 h_596 =>
chk (decide (v_596 ≠ -1)) <| bnd v_596.toNatClampNeg fun r_596 =>
chk (isT h_596 13 r_596) <| bd3 (g_J4_toString_0e30d N r_596 h_596) fun v_599 h_599 =>
chk (decide (v_599 ≠ -1)) <| bnd v_599.toNatClampNeg fun r_599 =>
chk (isT h_599 13 p4_488) <| bd3 (g_J4_append_15ec4 N p4_488 r_599 h_599) fun v_602 h_602 =>
chk (decide (v_602 ≠ -1)) <| bnd v_602.toNatClampNeg fun r_602 =>
X ((s7_488 + 1)) h_602)

def g_L_texts_L680 (N : Nat) (a1 : Nat) (a2 : Int32) (p3_680 : Int32) (p4_680 : Nat) (K815 : DS → DA) (X : Int32 → DS → DA) (s7_680 : Int32) (h : DS) : DA :=
if p3_680 ≤ s7_680 then (K815 h)
else (bo (dI h a1 12 7) fun a_706 =>
bd3 (g_L_between N ((a2 * (s7_680 + (7 : Int32))) + ((331 : Int32) * s7_680)) (0 : Int32) (a_706 - (1 : Int32)) h) fun v_711 h_711 =>
bo (dI h_711 a1 12 7) fun a_724 =>
bd3 (g_L_between N (((a2 * (s7_680 + (7 : Int32))) + ((331 : Int32) * s7_680)) >>> ((4 : Int32) &&& 31)) (1 : Int32) (a_724 - (1 : Int32)) h_711) fun v_729 h_729 =>
bo (dI h_729 a1 12 7) fun a_734 =>
chk (decide (a_734 ≠ 0)) <|
bo (nn (dR h_729 a1 12 20)) fun r_741 =>
bo (lA h_729 100 r_741 v_711) fun a_747 =>
bo (sA h_729 100 r_741 v_711 (a_747 ||| ((1 : Int32) <<< ((irm (v_711 + v_729) a_734) &&& 31)))) fun h_753 =>
bo (nn (dR h_753 a1 12 20)) fun r_755 =>
bo (lA h_753 100 r_755 (irm (v_711 + v_729) a_734)) fun a_761 =>
bo (sA h_753 100 r_755 (irm (v_711 + v_729) a_734) (a_761 ||| ((1 : Int32) <<< (v_711 &&& 31)))) fun h_767 =>
bo (nO h_767 13 4) fun h_770 =>
bd3 (g_J4_init_da8c8 N h_767.2.1.length h_770) fun v_774 h_774 =>
chk (isT h_774 13 h_767.2.1.length) <| bd3 (g_J4_append_15ec4 N h_767.2.1.length 1000208 h_774) fun v_779 h_779 =>
chk (decide (v_779 ≠ -1)) <| bnd v_779.toNatClampNeg fun r_779 =>
chk (isT h_779 13 r_779) <| bd3 (g_J4_append_bf812 N r_779 v_711 h_779) fun v_784 h_784 =>
chk (decide (v_784 ≠ -1)) <| bnd v_784.toNatClampNeg fun r_784 =>
chk (isT h_784 13 r_784) <| bd3 (g_J4_append_15ec4 N r_784 1000209 h_784) fun v_789 h_789 =>
chk (decide (v_789 ≠ -1)) <| bnd v_789.toNatClampNeg fun r_789 =>
chk (isT h_789 13 r_789) <| bd3 (g_J4_append_bf812 N r_789 (irm (v_711 + v_729) a_734) h_789) fun v_794 h_794 =>
chk (decide (v_794 ≠ -1)) <| bnd v_794.toNatClampNeg fun r_794 =>
chk (isT h_794 13 r_794) <| bd3 (g_J4_append_15ec4 N r_794 1000202 h_794) fun v_799 h_799 =>
chk (decide (v_799 ≠ -1)) <| bnd v_799.toNatClampNeg fun r_799 =>
chk (isT h_799 13 r_799) <| bd3 (g_J4_toString_0e30d N r_799 h_799) fun v_802 h_802 =>
chk (decide (v_802 ≠ -1)) <| bnd v_802.toNatClampNeg fun r_802 =>
chk (isT h_802 13 p4_680) <| bd3 (g_J4_append_15ec4 N p4_680 r_802 h_802) fun v_805 h_805 =>
chk (decide (v_805 ≠ -1)) <| bnd v_805.toNatClampNeg fun r_805 =>
X ((s7_680 + 1)) h_805)

def g_L_texts_J654 (N : Nat) (a1 : Nat) (a2 : Int32)   (t0_654 : Int32) (h : DS) : DA :=
bo (nO h 13 4) fun h_655 =>
bd3 (g_J4_init_da8c8 N h.2.1.length h_655) fun v_659 h_659 =>
bo (nA h_659 100 (12 : Int32)) fun h_667 =>
bo (wR h_667 a1 12 20 (some h_659.2.1.length)) fun h_669 =>
bo (wI h_669 a1 12 14 t0_654) fun h_674 =>
jt (fun Y a hz => g_L_texts_L680 N a1 a2 t0_654 h.2.1.length (fun hk815 => chk (isT hk815 13 h.2.1.length) <| bd3 (g_J4_toString_0e30d N h.2.1.length hk815) fun v_818 h_818 =>
chk (decide (v_818 ≠ -1)) <| bnd v_818.toNatClampNeg fun r_818 =>
bd3 (g_L_say N r_818 h_818) fun v_821 h_821 =>
chk (isT h_821 11 0) <| bdX (f_X11_text N (3 : Int32) h_821.1) h_821 fun v_826 hh_826 => bnd (gs (f_X12_text N (3 : Int32)) hh_826) fun h_826 =>
if v_826 = t0_654 then (some ((1 : Int32), h_826))
else (some ((0 : Int32), h_826))) Y a hz) N (0) h_674

def g_L_texts_J467 (N : Nat) (a1 : Nat) (a2 : Int32)   (t0_467 : Int32) (h : DS) : DA :=
bo (nO h 13 4) fun h_468 =>
bd3 (g_J4_init_da8c8 N h.2.1.length h_468) fun v_472 h_472 =>
bo (nQ h_472 103 t0_467) fun h_479 =>
bo (wR h_479 a1 12 19 (some h_472.2.1.length)) fun h_482 =>
jt (fun Y a hz => g_L_texts_L488 N a1 a2 t0_467 h.2.1.length (fun hk612 => chk (isT hk612 13 h.2.1.length) <| bd3 (g_J4_toString_0e30d N h.2.1.length hk612) fun v_615 h_615 =>
chk (decide (v_615 ≠ -1)) <| bnd v_615.toNatClampNeg fun r_615 =>
bd3 (g_L_say N r_615 h_615) fun v_618 h_618 =>
chk (isT h_618 11 0) <| bdX (f_X11_text N (2 : Int32) h_618.1) h_618 fun v_623 hh_623 => bnd (gs (f_X12_text N (2 : Int32)) hh_623) fun h_623 =>
if v_623 = t0_467 then (bo (dI h_623 a1 12 7) fun a_633 =>
if (2 : Int32) ≤ a_633 then (bd3 (g_L_between N (a2 >>> ((6 : Int32) &&& 31)) (0 : Int32) (14 : Int32) h_623) fun v_651 h_651 =>
g_L_texts_J654 N a1 a2 v_651 h_651)
else (g_L_texts_J654 N a1 a2 (0 : Int32) h_623))
else (some ((0 : Int32), h_623))) Y a hz) N (0) h_482

def g_L_texts (N : Nat) (a1 : Nat) (a2 : Int32) (h : DS) : DA :=
bd3 (g_L_between N (a2 >>> ((3 : Int32) &&& 31)) (0 : Int32) (8 : Int32) h) fun v_6 h_6 =>
bo (nO h_6 13 4) fun h_10 =>
bd3 (g_J4_init_da8c8 N h_6.2.1.length h_10) fun v_14 h_14 =>
bo (nQ h_14 103 (16 : Int32)) fun h_21 =>
bo (wI h_21 a1 12 10 (9 : Int32)) fun h_32 =>
bo (wI h_32 a1 12 11 (300 : Int32)) fun h_39 =>
bo (wI h_39 a1 12 12 (0 : Int32)) fun h_44 =>
bo (wI h_44 a1 12 13 v_6) fun h_49 =>
jt (fun Y a hz => g_L_texts_L55 N a1 a2 v_6 h_6.2.1.length h_14.2.1.length (fun k6_390 hk390 => bo (nQ hk390 103 k6_390) fun h_393 =>
bo (wR h_393 a1 12 18 (some hk390.2.1.length)) fun h_396 =>
jt (fun Y a hz => g_L_texts_L402 N a1 a2 v_6 h_6.2.1.length h_14.2.1.length k6_390 (fun hk427 => chk (isT hk427 13 h_6.2.1.length) <| bd3 (g_J4_toString_0e30d N h_6.2.1.length hk427) fun v_430 h_430 =>
chk (decide (v_430 ≠ -1)) <| bnd v_430.toNatClampNeg fun r_430 =>
bd3 (g_L_say N r_430 h_430) fun v_433 h_433 =>
chk (isT h_433 11 0) <| bdX (f_X11_text N (1 : Int32) h_433.1) h_433 fun v_438 hh_438 => bnd (gs (f_X12_text N (1 : Int32)) hh_438) fun h_438 =>
if v_438 = v_6 then (bo (dI h_438 a1 12 8) fun a_448 =>
if a_448 = 0 then (g_L_texts_J467 N a1 a2 (0 : Int32) h_438)
else (bd3 (g_L_between N (a2 >>> ((5 : Int32) &&& 31)) (0 : Int32) (7 : Int32) h_438) fun v_464 h_464 =>
g_L_texts_J467 N a1 a2 v_464 h_464))
else (some ((0 : Int32), h_438))) Y a hz) N (0) h_396) Y a.1 a.2 hz) N (0, 0) h_49

set_option maxRecDepth 100000 in
set_option maxHeartbeats 4000000 in
theorem dj_L_texts_J318_55 (N d : Nat) (a1 : Nat) (a2 : Int32) (p3_55 : Int32) (p4_55 : Nat) (p5_55 : Nat)  (K390 : Int32 → DS → DA) (X : (Int32 × Int32) → DS → DA) (hK390 : ∀ (k6 : Int32) (h : DS), DOk SX (d + 10) m_L_texts 390 [some (.ref 0), some (.ref a1), some (.int a2), some (.int p3_55), some (.ref p4_55), some (.ref p5_55), some (.int k6), none, none, none, none] [] h (K390 k6 h)) (hX : ∀ (a : (Int32 × Int32)) (h : DS), DOk SX (d + 10) m_L_texts 55 [some (.ref 0), some (.ref a1), some (.int a2), some (.int p3_55), some (.ref p4_55), some (.ref p5_55), some (.int a.1), some (.int a.2), none, none, none] [] h (X a h)) (s6_318 : Int32) (s7_318 : Int32) (s8_318 : Int32) (s9_318 : Int32) (h : DS) : DOk SX (d + 10) m_L_texts 318 [some (.ref 0), some (.ref a1), some (.int a2), some (.int p3_55), some (.ref p4_55), some (.ref p5_55), some (.int s6_318), some (.int s7_318), some (.int s8_318), some (.int s9_318), none] [] h (g_L_texts_J318_55 N a1 a2 p3_55 p4_55 p5_55 K390 X s6_318 s7_318 s8_318 s9_318 h) := by
  unfold g_L_texts_J318_55
  refine dk_iload 320 9 dL_texts_318 rfl rfl ?_
  refine dk_iconst 321 3 dL_texts_320 rfl rfl ?_
  refine dk_icmp_ne 384 324 dL_texts_321 (by decide) rfl (fun _ => ?_) (fun _ => ?_)
  · refine dk_iinc 387 7 1 [some (.ref 0), some (.ref a1), some (.int a2), some (.int p3_55), some (.ref p4_55), some (.ref p5_55), some (.int s6_318), some (.int (s7_318 + 1)), some (.int s8_318), some (.int s9_318), none] dL_texts_384 rfl rfl rfl (by decide) rfl ?_
    refine dk_goto 55 dL_texts_387 (by decide) ?_
    exact dk_less [some (.ref 0), some (.ref a1), some (.int a2), some (.int p3_55), some (.ref p4_55), some (.ref p5_55), some (.int s6_318), some (.int (s7_318 + 1)), none, none, none] (And.intro rfl (And.intro rfl (And.intro rfl (And.intro rfl (And.intro rfl (And.intro rfl (And.intro rfl (And.intro rfl (trivial))))))))) (hX (s6_318, (s7_318 + 1)) h)
  · refine dk_iload 326 8 dL_texts_324 rfl rfl ?_
    refine dk_iconst 327 5 dL_texts_326 rfl rfl ?_
    refine dk_ishr 328 dL_texts_327 rfl ?_
    refine dk_iconst 329 0 dL_texts_328 rfl rfl ?_
    refine dk_aload_n 330 1 dL_texts_329 rfl rfl rfl ?_
    refine dk_getIN 333 dL_texts_330 rfl rfl FN_EncoresLaw_62 (fun a_330 _ => ?_)
    refine dk_iconst 334 1 dL_texts_333 rfl rfl ?_
    refine dk_isub 335 dL_texts_334 rfl ?_
    refine dk_callS (np := 3) (M' := m_L_between) (As := [.int (s8_318 >>> ((5 : Int32) &&& 31)), .int 0, .int (a_330 - (1 : Int32))]) (st := []) 338 dL_texts_335 rfl rfl km_L_between ks_L_between ml_EncoresLaw_37 (by decide) rfl rfl (Nat.le_of_ble_eq_true rfl) (dc_L_between N (d + 9) (s8_318 >>> ((5 : Int32) &&& 31)) (0 : Int32) (a_330 - (1 : Int32)) h) (fun v_335 h_335 e_335 => ?_)
    show DOk _ _ _ _ _ (.int v_335 :: []) _ _
    refine dk_istore 340 10 [some (.ref 0), some (.ref a1), some (.int a2), some (.int p3_55), some (.ref p4_55), some (.ref p5_55), some (.int s6_318), some (.int s7_318), some (.int s8_318), some (.int s9_318), some (.int v_335)] dL_texts_338 rfl (by decide) rfl ?_
    refine dk_aload_n 341 1 dL_texts_340 rfl rfl rfl ?_
    refine dk_dup 342 dL_texts_341 rfl rfl ?_
    refine dk_getIN 345 dL_texts_342 rfl rfl FN_EncoresLaw_56 (fun a_342 _ => ?_)
    refine dk_iconst 346 1 dL_texts_345 rfl rfl ?_
    refine dk_iload 348 10 dL_texts_346 rfl rfl ?_
    refine dk_ishl 349 dL_texts_348 rfl ?_
    refine dk_ior 350 dL_texts_349 rfl ?_
    refine dk_putIN 353 dL_texts_350 rfl rfl FN_EncoresLaw_56 rfl pZ_12_12 rfl rfl (fun h_350 _ => ?_)
    refine dk_aload 355 4 dL_texts_353 rfl rfl ?_
    refine dk_new (ty := ty13) (ci := 13) 358 dL_texts_355 rfl rfl kl_EncoresLaw_43 in_java_lang_StringBuilder wi_java_lang_StringBuilder (by decide) rfl ty13_ok dv_13 (fun h_355 _ => ?_)
    refine dk_dup 359 dL_texts_358 rfl rfl ?_
    refine dk_callI (np := 0) (M' := m_J4_init_da8c8) (As := []) (st := [.ref h_350.2.1.length, .ref p4_55]) 362 dL_texts_359 rfl rfl km_J4_init_da8c8 ki_J4_init_da8c8 ml_EncoresLaw_45 (by decide) rfl rfl rfl rfl (Nat.le_of_ble_eq_true rfl) (dc_J4_init_da8c8 N (d + 7) h_350.2.1.length h_355) (fun v_359 h_359 e_359 => ?_)
    refine dk_ldcS 364 6 1000205 dL_texts_362 rfl rfl rfl rfl ?_
    refine dk_callV (np := 1) (M' := m_J4_append_15ec4) (As := [.ref 1000205]) (st := [.ref p4_55]) 13 367 dL_texts_364 rfl rfl km_J4_append_15ec4 ki_J4_append_15ec4 kv_J4_append_15ec4 ml_EncoresLaw_70 (by decide) (by decide) rfl rfl rfl (Nat.le_of_ble_eq_true rfl) (dc_J4_append_15ec4 N (d + 4) h_350.2.1.length 1000205 h_359) (fun v_364 h_364 e_364 => ?_)
    show DOk _ _ _ _ _ ((if v_364 = -1 then Value.null else .ref v_364.toNatClampNeg) :: [.ref p4_55]) _ _
    refine dk_rr (fun r_364 => ?_)
    refine dk_iload 369 10 dL_texts_367 rfl rfl ?_
    refine dk_callV (np := 1) (M' := m_J4_append_bf812) (As := [.int v_335]) (st := [.ref p4_55]) 13 372 dL_texts_369 rfl rfl km_J4_append_bf812 ki_J4_append_bf812 kv_J4_append_bf812 ml_EncoresLaw_74 (by decide) (by decide) rfl rfl rfl (Nat.le_of_ble_eq_true rfl) (dc_J4_append_bf812 N (d + 4) r_364 v_335 h_364) (fun v_369 h_369 e_369 => ?_)
    show DOk _ _ _ _ _ ((if v_369 = -1 then Value.null else .ref v_369.toNatClampNeg) :: [.ref p4_55]) _ _
    refine dk_rr (fun r_369 => ?_)
    refine dk_ldcS 374 3 1000202 dL_texts_372 rfl rfl rfl rfl ?_
    refine dk_callV (np := 1) (M' := m_J4_append_15ec4) (As := [.ref 1000202]) (st := [.ref p4_55]) 13 377 dL_texts_374 rfl rfl km_J4_append_15ec4 ki_J4_append_15ec4 kv_J4_append_15ec4 ml_EncoresLaw_70 (by decide) (by decide) rfl rfl rfl (Nat.le_of_ble_eq_true rfl) (dc_J4_append_15ec4 N (d + 4) r_369 1000202 h_369) (fun v_374 h_374 e_374 => ?_)
    show DOk _ _ _ _ _ ((if v_374 = -1 then Value.null else .ref v_374.toNatClampNeg) :: [.ref p4_55]) _ _
    refine dk_rr (fun r_374 => ?_)
    refine dk_callV (np := 0) (M' := m_J4_toString_0e30d) (As := []) (st := [.ref p4_55]) 13 380 dL_texts_377 rfl rfl km_J4_toString_0e30d ki_J4_toString_0e30d kv_J4_toString_0e30d ml_EncoresLaw_81 (by decide) (by decide) rfl rfl rfl (Nat.le_of_ble_eq_true rfl) (dc_J4_toString_0e30d N (d + 4) r_374 h_374) (fun v_377 h_377 e_377 => ?_)
    show DOk _ _ _ _ _ ((if v_377 = -1 then Value.null else .ref v_377.toNatClampNeg) :: [.ref p4_55]) _ _
    refine dk_rr (fun r_377 => ?_)
    refine dk_callV (np := 1) (M' := m_J4_append_15ec4) (As := [.ref r_377]) (st := []) 13 383 dL_texts_380 rfl rfl km_J4_append_15ec4 ki_J4_append_15ec4 kv_J4_append_15ec4 ml_EncoresLaw_70 (by decide) (by decide) rfl rfl rfl (Nat.le_of_ble_eq_true rfl) (dc_J4_append_15ec4 N (d + 4) p4_55 r_377 h_377) (fun v_380 h_380 e_380 => ?_)
    show DOk _ _ _ _ _ ((if v_380 = -1 then Value.null else .ref v_380.toNatClampNeg) :: []) _ _
    refine dk_rr (fun r_380 => ?_)
    refine dk_pop 384 dL_texts_383 rfl rfl ?_
    refine dk_iinc 387 7 1 [some (.ref 0), some (.ref a1), some (.int a2), some (.int p3_55), some (.ref p4_55), some (.ref p5_55), some (.int s6_318), some (.int (s7_318 + 1)), some (.int s8_318), some (.int s9_318), some (.int v_335)] dL_texts_384 rfl rfl rfl (by decide) rfl ?_
    refine dk_goto 55 dL_texts_387 (by decide) ?_
    exact dk_less [some (.ref 0), some (.ref a1), some (.int a2), some (.int p3_55), some (.ref p4_55), some (.ref p5_55), some (.int s6_318), some (.int (s7_318 + 1)), none, none, none] (And.intro rfl (And.intro rfl (And.intro rfl (And.intro rfl (And.intro rfl (And.intro rfl (And.intro rfl (And.intro rfl (trivial))))))))) (hX (s6_318, (s7_318 + 1)) h_380)

set_option maxRecDepth 100000 in
set_option maxHeartbeats 4000000 in
theorem dj_L_texts_J263_55 (N d : Nat) (a1 : Nat) (a2 : Int32) (p3_55 : Int32) (p4_55 : Nat) (p5_55 : Nat)  (K390 : Int32 → DS → DA) (X : (Int32 × Int32) → DS → DA) (hK390 : ∀ (k6 : Int32) (h : DS), DOk SX (d + 10) m_L_texts 390 [some (.ref 0), some (.ref a1), some (.int a2), some (.int p3_55), some (.ref p4_55), some (.ref p5_55), some (.int k6), none, none, none, none] [] h (K390 k6 h)) (hX : ∀ (a : (Int32 × Int32)) (h : DS), DOk SX (d + 10) m_L_texts 55 [some (.ref 0), some (.ref a1), some (.int a2), some (.int p3_55), some (.ref p4_55), some (.ref p5_55), some (.int a.1), some (.int a.2), none, none, none] [] h (X a h)) (s6_263 : Int32) (s7_263 : Int32) (s8_263 : Int32) (s9_263 : Int32) (h : DS) : DOk SX (d + 10) m_L_texts 263 [some (.ref 0), some (.ref a1), some (.int a2), some (.int p3_55), some (.ref p4_55), some (.ref p5_55), some (.int s6_263), some (.int s7_263), some (.int s8_263), some (.int s9_263), none] [] h (g_L_texts_J263_55 N a1 a2 p3_55 p4_55 p5_55 K390 X s6_263 s7_263 s8_263 s9_263 h) := by
  unfold g_L_texts_J263_55
  refine dk_iload 265 9 dL_texts_263 rfl rfl ?_
  refine dk_iconst 266 2 dL_texts_265 rfl rfl ?_
  refine dk_icmp_ne 318 269 dL_texts_266 (by decide) rfl (fun _ => ?_) (fun _ => ?_)
  · exact dk_less [some (.ref 0), some (.ref a1), some (.int a2), some (.int p3_55), some (.ref p4_55), some (.ref p5_55), some (.int s6_263), some (.int s7_263), some (.int s8_263), some (.int s9_263), none] (And.intro rfl (And.intro rfl (And.intro rfl (And.intro rfl (And.intro rfl (And.intro rfl (And.intro rfl (And.intro rfl (And.intro rfl (And.intro rfl (trivial))))))))))) (dj_L_texts_J318_55 (SX := SX) N d a1 a2 p3_55 p4_55 p5_55 K390 X hK390 hX s6_263 s7_263 s8_263 s9_263 h)
  · refine dk_aload_n 270 1 dL_texts_269 rfl rfl rfl ?_
    refine dk_iload 272 8 dL_texts_270 rfl rfl ?_
    refine dk_iconst 273 5 dL_texts_272 rfl rfl ?_
    refine dk_ishr 274 dL_texts_273 rfl ?_
    refine dk_bipush 276 60 dL_texts_274 rfl rfl ?_
    refine dk_sipush 279 600 dL_texts_276 rfl rfl ?_
    refine dk_callS (np := 3) (M' := m_L_between) (As := [.int (s8_263 >>> ((5 : Int32) &&& 31)), .int 60, .int 600]) (st := [.ref a1]) 282 dL_texts_279 rfl rfl km_L_between ks_L_between ml_EncoresLaw_37 (by decide) rfl rfl (Nat.le_of_ble_eq_true rfl) (dc_L_between N (d + 9) (s8_263 >>> ((5 : Int32) &&& 31)) (60 : Int32) (600 : Int32) h) (fun v_279 h_279 e_279 => ?_)
    show DOk _ _ _ _ _ (.int v_279 :: [.ref a1]) _ _
    refine dk_putIN 285 dL_texts_282 rfl rfl FN_EncoresLaw_54 rfl pZ_12_11 rfl rfl (fun h_282 _ => ?_)
    refine dk_aload 287 4 dL_texts_285 rfl rfl ?_
    refine dk_new (ty := ty13) (ci := 13) 290 dL_texts_287 rfl rfl kl_EncoresLaw_43 in_java_lang_StringBuilder wi_java_lang_StringBuilder (by decide) rfl ty13_ok dv_13 (fun h_287 _ => ?_)
    refine dk_dup 291 dL_texts_290 rfl rfl ?_
    refine dk_callI (np := 0) (M' := m_J4_init_da8c8) (As := []) (st := [.ref h_282.2.1.length, .ref p4_55]) 294 dL_texts_291 rfl rfl km_J4_init_da8c8 ki_J4_init_da8c8 ml_EncoresLaw_45 (by decide) rfl rfl rfl rfl (Nat.le_of_ble_eq_true rfl) (dc_J4_init_da8c8 N (d + 7) h_282.2.1.length h_287) (fun v_291 h_291 e_291 => ?_)
    refine dk_ldcS 296 5 1000204 dL_texts_294 rfl rfl rfl rfl ?_
    refine dk_callV (np := 1) (M' := m_J4_append_15ec4) (As := [.ref 1000204]) (st := [.ref p4_55]) 13 299 dL_texts_296 rfl rfl km_J4_append_15ec4 ki_J4_append_15ec4 kv_J4_append_15ec4 ml_EncoresLaw_70 (by decide) (by decide) rfl rfl rfl (Nat.le_of_ble_eq_true rfl) (dc_J4_append_15ec4 N (d + 4) h_282.2.1.length 1000204 h_291) (fun v_296 h_296 e_296 => ?_)
    show DOk _ _ _ _ _ ((if v_296 = -1 then Value.null else .ref v_296.toNatClampNeg) :: [.ref p4_55]) _ _
    refine dk_rr (fun r_296 => ?_)
    refine dk_aload_n 300 1 dL_texts_299 rfl rfl rfl ?_
    refine dk_getIN 303 dL_texts_300 rfl rfl FN_EncoresLaw_54 (fun a_300 _ => ?_)
    refine dk_callV (np := 1) (M' := m_J4_append_bf812) (As := [.int a_300]) (st := [.ref p4_55]) 13 306 dL_texts_303 rfl rfl km_J4_append_bf812 ki_J4_append_bf812 kv_J4_append_bf812 ml_EncoresLaw_74 (by decide) (by decide) rfl rfl rfl (Nat.le_of_ble_eq_true rfl) (dc_J4_append_bf812 N (d + 4) r_296 a_300 h_296) (fun v_303 h_303 e_303 => ?_)
    show DOk _ _ _ _ _ ((if v_303 = -1 then Value.null else .ref v_303.toNatClampNeg) :: [.ref p4_55]) _ _
    refine dk_rr (fun r_303 => ?_)
    refine dk_ldcS 308 3 1000202 dL_texts_306 rfl rfl rfl rfl ?_
    refine dk_callV (np := 1) (M' := m_J4_append_15ec4) (As := [.ref 1000202]) (st := [.ref p4_55]) 13 311 dL_texts_308 rfl rfl km_J4_append_15ec4 ki_J4_append_15ec4 kv_J4_append_15ec4 ml_EncoresLaw_70 (by decide) (by decide) rfl rfl rfl (Nat.le_of_ble_eq_true rfl) (dc_J4_append_15ec4 N (d + 4) r_303 1000202 h_303) (fun v_308 h_308 e_308 => ?_)
    show DOk _ _ _ _ _ ((if v_308 = -1 then Value.null else .ref v_308.toNatClampNeg) :: [.ref p4_55]) _ _
    refine dk_rr (fun r_308 => ?_)
    refine dk_callV (np := 0) (M' := m_J4_toString_0e30d) (As := []) (st := [.ref p4_55]) 13 314 dL_texts_311 rfl rfl km_J4_toString_0e30d ki_J4_toString_0e30d kv_J4_toString_0e30d ml_EncoresLaw_81 (by decide) (by decide) rfl rfl rfl (Nat.le_of_ble_eq_true rfl) (dc_J4_toString_0e30d N (d + 4) r_308 h_308) (fun v_311 h_311 e_311 => ?_)
    show DOk _ _ _ _ _ ((if v_311 = -1 then Value.null else .ref v_311.toNatClampNeg) :: [.ref p4_55]) _ _
    refine dk_rr (fun r_311 => ?_)
    refine dk_callV (np := 1) (M' := m_J4_append_15ec4) (As := [.ref r_311]) (st := []) 13 317 dL_texts_314 rfl rfl km_J4_append_15ec4 ki_J4_append_15ec4 kv_J4_append_15ec4 ml_EncoresLaw_70 (by decide) (by decide) rfl rfl rfl (Nat.le_of_ble_eq_true rfl) (dc_J4_append_15ec4 N (d + 4) p4_55 r_311 h_311) (fun v_314 h_314 e_314 => ?_)
    show DOk _ _ _ _ _ ((if v_314 = -1 then Value.null else .ref v_314.toNatClampNeg) :: []) _ _
    refine dk_rr (fun r_314 => ?_)
    refine dk_pop 318 dL_texts_317 rfl rfl ?_
    exact dk_less [some (.ref 0), some (.ref a1), some (.int a2), some (.int p3_55), some (.ref p4_55), some (.ref p5_55), some (.int s6_263), some (.int s7_263), some (.int s8_263), some (.int s9_263), none] (And.intro rfl (And.intro rfl (And.intro rfl (And.intro rfl (And.intro rfl (And.intro rfl (And.intro rfl (And.intro rfl (And.intro rfl (And.intro rfl (trivial))))))))))) (dj_L_texts_J318_55 (SX := SX) N d a1 a2 p3_55 p4_55 p5_55 K390 X hK390 hX s6_263 s7_263 s8_263 s9_263 h_314)

set_option maxRecDepth 100000 in
set_option maxHeartbeats 4000000 in
theorem dj_L_texts_J210_55 (N d : Nat) (a1 : Nat) (a2 : Int32) (p3_55 : Int32) (p4_55 : Nat) (p5_55 : Nat)  (K390 : Int32 → DS → DA) (X : (Int32 × Int32) → DS → DA) (hK390 : ∀ (k6 : Int32) (h : DS), DOk SX (d + 10) m_L_texts 390 [some (.ref 0), some (.ref a1), some (.int a2), some (.int p3_55), some (.ref p4_55), some (.ref p5_55), some (.int k6), none, none, none, none] [] h (K390 k6 h)) (hX : ∀ (a : (Int32 × Int32)) (h : DS), DOk SX (d + 10) m_L_texts 55 [some (.ref 0), some (.ref a1), some (.int a2), some (.int p3_55), some (.ref p4_55), some (.ref p5_55), some (.int a.1), some (.int a.2), none, none, none] [] h (X a h)) (s6_210 : Int32) (s7_210 : Int32) (s8_210 : Int32) (s9_210 : Int32) (h : DS) : DOk SX (d + 10) m_L_texts 210 [some (.ref 0), some (.ref a1), some (.int a2), some (.int p3_55), some (.ref p4_55), some (.ref p5_55), some (.int s6_210), some (.int s7_210), some (.int s8_210), some (.int s9_210), none] [] h (g_L_texts_J210_55 N a1 a2 p3_55 p4_55 p5_55 K390 X s6_210 s7_210 s8_210 s9_210 h) := by
  unfold g_L_texts_J210_55
  refine dk_iload 212 9 dL_texts_210 rfl rfl ?_
  refine dk_iconst 213 1 dL_texts_212 rfl rfl ?_
  refine dk_icmp_ne 263 216 dL_texts_213 (by decide) rfl (fun _ => ?_) (fun _ => ?_)
  · exact dk_less [some (.ref 0), some (.ref a1), some (.int a2), some (.int p3_55), some (.ref p4_55), some (.ref p5_55), some (.int s6_210), some (.int s7_210), some (.int s8_210), some (.int s9_210), none] (And.intro rfl (And.intro rfl (And.intro rfl (And.intro rfl (And.intro rfl (And.intro rfl (And.intro rfl (And.intro rfl (And.intro rfl (And.intro rfl (trivial))))))))))) (dj_L_texts_J263_55 (SX := SX) N d a1 a2 p3_55 p4_55 p5_55 K390 X hK390 hX s6_210 s7_210 s8_210 s9_210 h)
  · refine dk_aload_n 217 1 dL_texts_216 rfl rfl rfl ?_
    refine dk_iload 219 8 dL_texts_217 rfl rfl ?_
    refine dk_iconst 220 5 dL_texts_219 rfl rfl ?_
    refine dk_ishr 221 dL_texts_220 rfl ?_
    refine dk_iconst 222 0 dL_texts_221 rfl rfl ?_
    refine dk_bipush 224 7 dL_texts_222 rfl rfl ?_
    refine dk_callS (np := 3) (M' := m_L_between) (As := [.int (s8_210 >>> ((5 : Int32) &&& 31)), .int 0, .int 7]) (st := [.ref a1]) 227 dL_texts_224 rfl rfl km_L_between ks_L_between ml_EncoresLaw_37 (by decide) rfl rfl (Nat.le_of_ble_eq_true rfl) (dc_L_between N (d + 9) (s8_210 >>> ((5 : Int32) &&& 31)) (0 : Int32) (7 : Int32) h) (fun v_224 h_224 e_224 => ?_)
    show DOk _ _ _ _ _ (.int v_224 :: [.ref a1]) _ _
    refine dk_putIN 230 dL_texts_227 rfl rfl FN_EncoresLaw_48 rfl pZ_12_10 rfl rfl (fun h_227 _ => ?_)
    refine dk_aload 232 4 dL_texts_230 rfl rfl ?_
    refine dk_new (ty := ty13) (ci := 13) 235 dL_texts_232 rfl rfl kl_EncoresLaw_43 in_java_lang_StringBuilder wi_java_lang_StringBuilder (by decide) rfl ty13_ok dv_13 (fun h_232 _ => ?_)
    refine dk_dup 236 dL_texts_235 rfl rfl ?_
    refine dk_callI (np := 0) (M' := m_J4_init_da8c8) (As := []) (st := [.ref h_227.2.1.length, .ref p4_55]) 239 dL_texts_236 rfl rfl km_J4_init_da8c8 ki_J4_init_da8c8 ml_EncoresLaw_45 (by decide) rfl rfl rfl rfl (Nat.le_of_ble_eq_true rfl) (dc_J4_init_da8c8 N (d + 7) h_227.2.1.length h_232) (fun v_236 h_236 e_236 => ?_)
    refine dk_ldcS 241 4 1000203 dL_texts_239 rfl rfl rfl rfl ?_
    refine dk_callV (np := 1) (M' := m_J4_append_15ec4) (As := [.ref 1000203]) (st := [.ref p4_55]) 13 244 dL_texts_241 rfl rfl km_J4_append_15ec4 ki_J4_append_15ec4 kv_J4_append_15ec4 ml_EncoresLaw_70 (by decide) (by decide) rfl rfl rfl (Nat.le_of_ble_eq_true rfl) (dc_J4_append_15ec4 N (d + 4) h_227.2.1.length 1000203 h_236) (fun v_241 h_241 e_241 => ?_)
    show DOk _ _ _ _ _ ((if v_241 = -1 then Value.null else .ref v_241.toNatClampNeg) :: [.ref p4_55]) _ _
    refine dk_rr (fun r_241 => ?_)
    refine dk_aload_n 245 1 dL_texts_244 rfl rfl rfl ?_
    refine dk_getIN 248 dL_texts_245 rfl rfl FN_EncoresLaw_48 (fun a_245 _ => ?_)
    refine dk_callV (np := 1) (M' := m_J4_append_bf812) (As := [.int a_245]) (st := [.ref p4_55]) 13 251 dL_texts_248 rfl rfl km_J4_append_bf812 ki_J4_append_bf812 kv_J4_append_bf812 ml_EncoresLaw_74 (by decide) (by decide) rfl rfl rfl (Nat.le_of_ble_eq_true rfl) (dc_J4_append_bf812 N (d + 4) r_241 a_245 h_241) (fun v_248 h_248 e_248 => ?_)
    show DOk _ _ _ _ _ ((if v_248 = -1 then Value.null else .ref v_248.toNatClampNeg) :: [.ref p4_55]) _ _
    refine dk_rr (fun r_248 => ?_)
    refine dk_ldcS 253 3 1000202 dL_texts_251 rfl rfl rfl rfl ?_
    refine dk_callV (np := 1) (M' := m_J4_append_15ec4) (As := [.ref 1000202]) (st := [.ref p4_55]) 13 256 dL_texts_253 rfl rfl km_J4_append_15ec4 ki_J4_append_15ec4 kv_J4_append_15ec4 ml_EncoresLaw_70 (by decide) (by decide) rfl rfl rfl (Nat.le_of_ble_eq_true rfl) (dc_J4_append_15ec4 N (d + 4) r_248 1000202 h_248) (fun v_253 h_253 e_253 => ?_)
    show DOk _ _ _ _ _ ((if v_253 = -1 then Value.null else .ref v_253.toNatClampNeg) :: [.ref p4_55]) _ _
    refine dk_rr (fun r_253 => ?_)
    refine dk_callV (np := 0) (M' := m_J4_toString_0e30d) (As := []) (st := [.ref p4_55]) 13 259 dL_texts_256 rfl rfl km_J4_toString_0e30d ki_J4_toString_0e30d kv_J4_toString_0e30d ml_EncoresLaw_81 (by decide) (by decide) rfl rfl rfl (Nat.le_of_ble_eq_true rfl) (dc_J4_toString_0e30d N (d + 4) r_253 h_253) (fun v_256 h_256 e_256 => ?_)
    show DOk _ _ _ _ _ ((if v_256 = -1 then Value.null else .ref v_256.toNatClampNeg) :: [.ref p4_55]) _ _
    refine dk_rr (fun r_256 => ?_)
    refine dk_callV (np := 1) (M' := m_J4_append_15ec4) (As := [.ref r_256]) (st := []) 13 262 dL_texts_259 rfl rfl km_J4_append_15ec4 ki_J4_append_15ec4 kv_J4_append_15ec4 ml_EncoresLaw_70 (by decide) (by decide) rfl rfl rfl (Nat.le_of_ble_eq_true rfl) (dc_J4_append_15ec4 N (d + 4) p4_55 r_256 h_256) (fun v_259 h_259 e_259 => ?_)
    show DOk _ _ _ _ _ ((if v_259 = -1 then Value.null else .ref v_259.toNatClampNeg) :: []) _ _
    refine dk_rr (fun r_259 => ?_)
    refine dk_pop 263 dL_texts_262 rfl rfl ?_
    exact dk_less [some (.ref 0), some (.ref a1), some (.int a2), some (.int p3_55), some (.ref p4_55), some (.ref p5_55), some (.int s6_210), some (.int s7_210), some (.int s8_210), some (.int s9_210), none] (And.intro rfl (And.intro rfl (And.intro rfl (And.intro rfl (And.intro rfl (And.intro rfl (And.intro rfl (And.intro rfl (And.intro rfl (And.intro rfl (trivial))))))))))) (dj_L_texts_J263_55 (SX := SX) N d a1 a2 p3_55 p4_55 p5_55 K390 X hK390 hX s6_210 s7_210 s8_210 s9_210 h_259)

set_option maxRecDepth 100000 in
set_option maxHeartbeats 4000000 in
theorem dj_L_texts_J153_55 (N d : Nat) (a1 : Nat) (a2 : Int32) (p3_55 : Int32) (p4_55 : Nat) (p5_55 : Nat)  (K390 : Int32 → DS → DA) (X : (Int32 × Int32) → DS → DA) (hK390 : ∀ (k6 : Int32) (h : DS), DOk SX (d + 10) m_L_texts 390 [some (.ref 0), some (.ref a1), some (.int a2), some (.int p3_55), some (.ref p4_55), some (.ref p5_55), some (.int k6), none, none, none, none] [] h (K390 k6 h)) (hX : ∀ (a : (Int32 × Int32)) (h : DS), DOk SX (d + 10) m_L_texts 55 [some (.ref 0), some (.ref a1), some (.int a2), some (.int p3_55), some (.ref p4_55), some (.ref p5_55), some (.int a.1), some (.int a.2), none, none, none] [] h (X a h)) (s6_153 : Int32) (s7_153 : Int32) (s8_153 : Int32) (s9_153 : Int32) (t0_153 : Int32) (t1_153 : Int32) (t2_153 : Int32) (t3_153 : Nat) (t4_153 : Nat) (t5_153 : Int32) (t6_153 : Nat) (h : DS) : DOk SX (d + 10) m_L_texts 153 [some (.ref 0), some (.ref a1), some (.int a2), some (.int p3_55), some (.ref p4_55), some (.ref p5_55), some (.int s6_153), some (.int s7_153), some (.int s8_153), some (.int s9_153), none] [.int t0_153, .int t1_153, .int t2_153, .ref t3_153, .ref t4_153, .int t5_153, .ref t6_153] h (g_L_texts_J153_55 N a1 a2 p3_55 p4_55 p5_55 K390 X s6_153 s7_153 s8_153 s9_153 t0_153 t1_153 t2_153 t3_153 t4_153 t5_153 t6_153 h) := by
  unfold g_L_texts_J153_55
  refine dk_isub 154 dL_texts_153 rfl ?_
  refine dk_iast 155 dL_texts_154 rfl (fun h_154 _ => ?_)
  refine dk_aast 103 156 (Or.inl rfl) dL_texts_155 rfl (fun h_155 _ => ?_)
  refine dk_aload 158 4 dL_texts_156 rfl rfl ?_
  refine dk_new (ty := ty13) (ci := 13) 161 dL_texts_158 rfl rfl kl_EncoresLaw_43 in_java_lang_StringBuilder wi_java_lang_StringBuilder (by decide) rfl ty13_ok dv_13 (fun h_158 _ => ?_)
  refine dk_dup 162 dL_texts_161 rfl rfl ?_
  refine dk_callI (np := 0) (M' := m_J4_init_da8c8) (As := []) (st := [.ref h_155.2.1.length, .ref p4_55]) 165 dL_texts_162 rfl rfl km_J4_init_da8c8 ki_J4_init_da8c8 ml_EncoresLaw_45 (by decide) rfl rfl rfl rfl (Nat.le_of_ble_eq_true rfl) (dc_J4_init_da8c8 N (d + 7) h_155.2.1.length h_158) (fun v_162 h_162 e_162 => ?_)
  refine dk_ldcS 167 1 1000200 dL_texts_165 rfl rfl rfl rfl ?_
  refine dk_callV (np := 1) (M' := m_J4_append_15ec4) (As := [.ref 1000200]) (st := [.ref p4_55]) 13 170 dL_texts_167 rfl rfl km_J4_append_15ec4 ki_J4_append_15ec4 kv_J4_append_15ec4 ml_EncoresLaw_70 (by decide) (by decide) rfl rfl rfl (Nat.le_of_ble_eq_true rfl) (dc_J4_append_15ec4 N (d + 4) h_155.2.1.length 1000200 h_162) (fun v_167 h_167 e_167 => ?_)
  show DOk _ _ _ _ _ ((if v_167 = -1 then Value.null else .ref v_167.toNatClampNeg) :: [.ref p4_55]) _ _
  refine dk_rr (fun r_167 => ?_)
  refine dk_aload 172 5 dL_texts_170 rfl rfl ?_
  refine dk_iload 174 6 dL_texts_172 rfl rfl ?_
  refine dk_aald 103 175 (Or.inl rfl) dL_texts_174 rfl (fun r_174 _ => ?_)
  refine dk_iconst 176 0 dL_texts_175 rfl rfl ?_
  refine dk_iald 177 dL_texts_176 rfl (fun a_176 _ => ?_)
  refine dk_callV (np := 1) (M' := m_J4_append_bf812) (As := [.int a_176]) (st := [.ref p4_55]) 13 180 dL_texts_177 rfl rfl km_J4_append_bf812 ki_J4_append_bf812 kv_J4_append_bf812 ml_EncoresLaw_74 (by decide) (by decide) rfl rfl rfl (Nat.le_of_ble_eq_true rfl) (dc_J4_append_bf812 N (d + 4) r_167 a_176 h_167) (fun v_177 h_177 e_177 => ?_)
  show DOk _ _ _ _ _ ((if v_177 = -1 then Value.null else .ref v_177.toNatClampNeg) :: [.ref p4_55]) _ _
  refine dk_rr (fun r_177 => ?_)
  refine dk_ldcS 182 2 1000201 dL_texts_180 rfl rfl rfl rfl ?_
  refine dk_callV (np := 1) (M' := m_J4_append_15ec4) (As := [.ref 1000201]) (st := [.ref p4_55]) 13 185 dL_texts_182 rfl rfl km_J4_append_15ec4 ki_J4_append_15ec4 kv_J4_append_15ec4 ml_EncoresLaw_70 (by decide) (by decide) rfl rfl rfl (Nat.le_of_ble_eq_true rfl) (dc_J4_append_15ec4 N (d + 4) r_177 1000201 h_177) (fun v_182 h_182 e_182 => ?_)
  show DOk _ _ _ _ _ ((if v_182 = -1 then Value.null else .ref v_182.toNatClampNeg) :: [.ref p4_55]) _ _
  refine dk_rr (fun r_182 => ?_)
  refine dk_aload 187 5 dL_texts_185 rfl rfl ?_
  refine dk_iload 189 6 dL_texts_187 rfl rfl ?_
  refine dk_aald 103 190 (Or.inl rfl) dL_texts_189 rfl (fun r_189 _ => ?_)
  refine dk_iconst 191 1 dL_texts_190 rfl rfl ?_
  refine dk_iald 192 dL_texts_191 rfl (fun a_191 _ => ?_)
  refine dk_callV (np := 1) (M' := m_J4_append_bf812) (As := [.int a_191]) (st := [.ref p4_55]) 13 195 dL_texts_192 rfl rfl km_J4_append_bf812 ki_J4_append_bf812 kv_J4_append_bf812 ml_EncoresLaw_74 (by decide) (by decide) rfl rfl rfl (Nat.le_of_ble_eq_true rfl) (dc_J4_append_bf812 N (d + 4) r_182 a_191 h_182) (fun v_192 h_192 e_192 => ?_)
  show DOk _ _ _ _ _ ((if v_192 = -1 then Value.null else .ref v_192.toNatClampNeg) :: [.ref p4_55]) _ _
  refine dk_rr (fun r_192 => ?_)
  refine dk_ldcS 197 3 1000202 dL_texts_195 rfl rfl rfl rfl ?_
  refine dk_callV (np := 1) (M' := m_J4_append_15ec4) (As := [.ref 1000202]) (st := [.ref p4_55]) 13 200 dL_texts_197 rfl rfl km_J4_append_15ec4 ki_J4_append_15ec4 kv_J4_append_15ec4 ml_EncoresLaw_70 (by decide) (by decide) rfl rfl rfl (Nat.le_of_ble_eq_true rfl) (dc_J4_append_15ec4 N (d + 4) r_192 1000202 h_192) (fun v_197 h_197 e_197 => ?_)
  show DOk _ _ _ _ _ ((if v_197 = -1 then Value.null else .ref v_197.toNatClampNeg) :: [.ref p4_55]) _ _
  refine dk_rr (fun r_197 => ?_)
  refine dk_callV (np := 0) (M' := m_J4_toString_0e30d) (As := []) (st := [.ref p4_55]) 13 203 dL_texts_200 rfl rfl km_J4_toString_0e30d ki_J4_toString_0e30d kv_J4_toString_0e30d ml_EncoresLaw_81 (by decide) (by decide) rfl rfl rfl (Nat.le_of_ble_eq_true rfl) (dc_J4_toString_0e30d N (d + 4) r_197 h_197) (fun v_200 h_200 e_200 => ?_)
  show DOk _ _ _ _ _ ((if v_200 = -1 then Value.null else .ref v_200.toNatClampNeg) :: [.ref p4_55]) _ _
  refine dk_rr (fun r_200 => ?_)
  refine dk_callV (np := 1) (M' := m_J4_append_15ec4) (As := [.ref r_200]) (st := []) 13 206 dL_texts_203 rfl rfl km_J4_append_15ec4 ki_J4_append_15ec4 kv_J4_append_15ec4 ml_EncoresLaw_70 (by decide) (by decide) rfl rfl rfl (Nat.le_of_ble_eq_true rfl) (dc_J4_append_15ec4 N (d + 4) p4_55 r_200 h_200) (fun v_203 h_203 e_203 => ?_)
  show DOk _ _ _ _ _ ((if v_203 = -1 then Value.null else .ref v_203.toNatClampNeg) :: []) _ _
  refine dk_rr (fun r_203 => ?_)
  refine dk_pop 207 dL_texts_206 rfl rfl ?_
  refine dk_iinc 210 6 1 [some (.ref 0), some (.ref a1), some (.int a2), some (.int p3_55), some (.ref p4_55), some (.ref p5_55), some (.int (s6_153 + 1)), some (.int s7_153), some (.int s8_153), some (.int s9_153), none] dL_texts_207 rfl rfl rfl (by decide) rfl ?_
  exact dk_less [some (.ref 0), some (.ref a1), some (.int a2), some (.int p3_55), some (.ref p4_55), some (.ref p5_55), some (.int (s6_153 + 1)), some (.int s7_153), some (.int s8_153), some (.int s9_153), none] (And.intro rfl (And.intro rfl (And.intro rfl (And.intro rfl (And.intro rfl (And.intro rfl (And.intro rfl (And.intro rfl (And.intro rfl (And.intro rfl (trivial))))))))))) (dj_L_texts_J210_55 (SX := SX) N d a1 a2 p3_55 p4_55 p5_55 K390 X hK390 hX (s6_153 + 1) s7_153 s8_153 s9_153 h_203)

set_option maxRecDepth 100000 in
set_option maxHeartbeats 4000000 in
theorem dj_L_texts_J93_55 (N d : Nat) (a1 : Nat) (a2 : Int32) (p3_55 : Int32) (p4_55 : Nat) (p5_55 : Nat)  (K390 : Int32 → DS → DA) (X : (Int32 × Int32) → DS → DA) (hK390 : ∀ (k6 : Int32) (h : DS), DOk SX (d + 10) m_L_texts 390 [some (.ref 0), some (.ref a1), some (.int a2), some (.int p3_55), some (.ref p4_55), some (.ref p5_55), some (.int k6), none, none, none, none] [] h (K390 k6 h)) (hX : ∀ (a : (Int32 × Int32)) (h : DS), DOk SX (d + 10) m_L_texts 55 [some (.ref 0), some (.ref a1), some (.int a2), some (.int p3_55), some (.ref p4_55), some (.ref p5_55), some (.int a.1), some (.int a.2), none, none, none] [] h (X a h)) (s6_93 : Int32) (s7_93 : Int32) (s8_93 : Int32) (t0_93 : Int32) (t1_93 : Int32) (t2_93 : Int32) (h : DS) : DOk SX (d + 10) m_L_texts 93 [some (.ref 0), some (.ref a1), some (.int a2), some (.int p3_55), some (.ref p4_55), some (.ref p5_55), some (.int s6_93), some (.int s7_93), some (.int s8_93), none, none] [.int t0_93, .int t1_93, .int t2_93] h (g_L_texts_J93_55 N a1 a2 p3_55 p4_55 p5_55 K390 X s6_93 s7_93 s8_93 t0_93 t1_93 t2_93 h) := by
  unfold g_L_texts_J93_55
  refine dk_callS (np := 3) (M' := m_L_between) (As := [.int t2_93, .int t1_93, .int t0_93]) (st := []) 96 dL_texts_93 rfl rfl km_L_between ks_L_between ml_EncoresLaw_37 (by decide) rfl rfl (Nat.le_of_ble_eq_true rfl) (dc_L_between N (d + 9) t2_93 t1_93 t0_93 h) (fun v_93 h_93 e_93 => ?_)
  show DOk _ _ _ _ _ (.int v_93 :: []) _ _
  refine dk_istore 98 9 [some (.ref 0), some (.ref a1), some (.int a2), some (.int p3_55), some (.ref p4_55), some (.ref p5_55), some (.int s6_93), some (.int s7_93), some (.int s8_93), some (.int v_93), none] dL_texts_96 rfl (by decide) rfl ?_
  refine dk_iload 100 9 dL_texts_98 rfl rfl ?_
  refine dk_if_ne 210 103 dL_texts_100 (by decide) rfl (fun _ => ?_) (fun _ => ?_)
  · exact dk_less [some (.ref 0), some (.ref a1), some (.int a2), some (.int p3_55), some (.ref p4_55), some (.ref p5_55), some (.int s6_93), some (.int s7_93), some (.int s8_93), some (.int v_93), none] (And.intro rfl (And.intro rfl (And.intro rfl (And.intro rfl (And.intro rfl (And.intro rfl (And.intro rfl (And.intro rfl (And.intro rfl (And.intro rfl (trivial))))))))))) (dj_L_texts_J210_55 (SX := SX) N d a1 a2 p3_55 p4_55 p5_55 K390 X hK390 hX s6_93 s7_93 s8_93 v_93 h_93)
  · refine dk_aload 105 5 dL_texts_103 rfl rfl ?_
    refine dk_iload 107 6 dL_texts_105 rfl rfl ?_
    refine dk_iconst 108 2 dL_texts_107 rfl rfl ?_
    refine dk_newaI 110 dL_texts_108 rfl (fun h_108 _ => ?_)
    refine dk_dup 111 dL_texts_110 rfl rfl ?_
    refine dk_iconst 112 0 dL_texts_111 rfl rfl ?_
    refine dk_iload 114 8 dL_texts_112 rfl rfl ?_
    refine dk_iconst 115 4 dL_texts_114 rfl rfl ?_
    refine dk_ishr 116 dL_texts_115 rfl ?_
    refine dk_iconst 117 1 dL_texts_116 rfl rfl ?_
    refine dk_bipush 119 30 dL_texts_117 rfl rfl ?_
    refine dk_callS (np := 3) (M' := m_L_between) (As := [.int (s8_93 >>> ((4 : Int32) &&& 31)), .int 1, .int 30]) (st := [.int 0, .ref h_93.2.1.length, .ref h_93.2.1.length, .int s6_93, .ref p5_55]) 122 dL_texts_119 rfl rfl km_L_between ks_L_between ml_EncoresLaw_37 (by decide) rfl rfl (Nat.le_of_ble_eq_true rfl) (dc_L_between N (d + 9) (s8_93 >>> ((4 : Int32) &&& 31)) (1 : Int32) (30 : Int32) h_108) (fun v_119 h_119 e_119 => ?_)
    show DOk _ _ _ _ _ (.int v_119 :: [.int 0, .ref h_93.2.1.length, .ref h_93.2.1.length, .int s6_93, .ref p5_55]) _ _
    refine dk_iast 123 dL_texts_122 rfl (fun h_122 _ => ?_)
    refine dk_dup 124 dL_texts_123 rfl rfl ?_
    refine dk_iconst 125 1 dL_texts_124 rfl rfl ?_
    refine dk_aload_n 126 1 dL_texts_125 rfl rfl rfl ?_
    refine dk_getIN 129 dL_texts_126 rfl rfl FN_EncoresLaw_65 (fun a_126 _ => ?_)
    refine dk_iload 131 8 dL_texts_129 rfl rfl ?_
    refine dk_bipush 133 6 dL_texts_131 rfl rfl ?_
    refine dk_ishr 134 dL_texts_133 rfl ?_
    refine dk_iconst 135 0 dL_texts_134 rfl rfl ?_
    refine dk_iconst 136 4 dL_texts_135 rfl rfl ?_
    refine dk_callS (np := 3) (M' := m_L_between) (As := [.int (s8_93 >>> ((6 : Int32) &&& 31)), .int 0, .int 4]) (st := [.int a_126, .int 1, .ref h_93.2.1.length, .ref h_93.2.1.length, .int s6_93, .ref p5_55]) 139 dL_texts_136 rfl rfl km_L_between ks_L_between ml_EncoresLaw_37 (by decide) rfl rfl (Nat.le_of_ble_eq_true rfl) (dc_L_between N (d + 9) (s8_93 >>> ((6 : Int32) &&& 31)) (0 : Int32) (4 : Int32) h_122) (fun v_136 h_136 e_136 => ?_)
    show DOk _ _ _ _ _ (.int v_136 :: [.int a_126, .int 1, .ref h_93.2.1.length, .ref h_93.2.1.length, .int s6_93, .ref p5_55]) _ _
    refine dk_iadd 140 dL_texts_139 rfl ?_
    refine dk_aload_n 141 1 dL_texts_140 rfl rfl rfl ?_
    refine dk_getIN 144 dL_texts_141 rfl rfl FN_EncoresLaw_65 (fun a_141 _ => ?_)
    refine dk_iconst 145 1 dL_texts_144 rfl rfl ?_
    refine dk_icmp_le 152 148 dL_texts_145 (by decide) rfl (fun _ => ?_) (fun _ => ?_)
    · refine dk_iconst 153 0 dL_texts_152 rfl rfl ?_
      exact dk_less [some (.ref 0), some (.ref a1), some (.int a2), some (.int p3_55), some (.ref p4_55), some (.ref p5_55), some (.int s6_93), some (.int s7_93), some (.int s8_93), some (.int v_93), none] (And.intro rfl (And.intro rfl (And.intro rfl (And.intro rfl (And.intro rfl (And.intro rfl (And.intro rfl (And.intro rfl (And.intro rfl (And.intro rfl (trivial))))))))))) (dj_L_texts_J153_55 (SX := SX) N d a1 a2 p3_55 p4_55 p5_55 K390 X hK390 hX s6_93 s7_93 s8_93 v_93 (0 : Int32) (a_126 + v_136) (1 : Int32) h_93.2.1.length h_93.2.1.length s6_93 p5_55 h_136)
    · refine dk_iconst 149 2 dL_texts_148 rfl rfl ?_
      refine dk_goto 153 dL_texts_149 (by decide) ?_
      exact dk_less [some (.ref 0), some (.ref a1), some (.int a2), some (.int p3_55), some (.ref p4_55), some (.ref p5_55), some (.int s6_93), some (.int s7_93), some (.int s8_93), some (.int v_93), none] (And.intro rfl (And.intro rfl (And.intro rfl (And.intro rfl (And.intro rfl (And.intro rfl (And.intro rfl (And.intro rfl (And.intro rfl (And.intro rfl (trivial))))))))))) (dj_L_texts_J153_55 (SX := SX) N d a1 a2 p3_55 p4_55 p5_55 K390 X hK390 hX s6_93 s7_93 s8_93 v_93 (2 : Int32) (a_126 + v_136) (1 : Int32) h_93.2.1.length h_93.2.1.length s6_93 p5_55 h_136)

set_option maxRecDepth 100000 in
set_option maxHeartbeats 4000000 in
theorem db_L_texts_L55 (N d : Nat) (a1 : Nat) (a2 : Int32) (p3_55 : Int32) (p4_55 : Nat) (p5_55 : Nat) (K390 : Int32 → DS → DA) (hK390 : ∀ (k6 : Int32) (h : DS), DOk SX (d + 10) m_L_texts 390 [some (.ref 0), some (.ref a1), some (.int a2), some (.int p3_55), some (.ref p4_55), some (.ref p5_55), some (.int k6), none, none, none, none] [] h (K390 k6 h)) (X : (Int32 × Int32) → DS → DA) (hX : ∀ (a : (Int32 × Int32)) (h : DS), DOk SX (d + 10) m_L_texts 55 [some (.ref 0), some (.ref a1), some (.int a2), some (.int p3_55), some (.ref p4_55), some (.ref p5_55), some (.int a.1), some (.int a.2), none, none, none] [] h (X a h)) (s6_55 : Int32) (s7_55 : Int32) (h : DS) : DOk SX (d + 10) m_L_texts 55 [some (.ref 0), some (.ref a1), some (.int a2), some (.int p3_55), some (.ref p4_55), some (.ref p5_55), some (.int s6_55), some (.int s7_55), none, none, none] [] h (g_L_texts_L55 N a1 a2 p3_55 p4_55 p5_55 K390 X s6_55 s7_55 h) := by
  unfold g_L_texts_L55
  refine dk_iload 57 7 dL_texts_55 rfl rfl ?_
  refine dk_iload_n 58 3 dL_texts_57 rfl rfl rfl ?_
  refine dk_icmp_ge 390 61 dL_texts_58 (by decide) rfl (fun _ => ?_) (fun _ => ?_)
  · exact dk_less [some (.ref 0), some (.ref a1), some (.int a2), some (.int p3_55), some (.ref p4_55), some (.ref p5_55), some (.int s6_55), none, none, none, none] (And.intro rfl (And.intro rfl (And.intro rfl (And.intro rfl (And.intro rfl (And.intro rfl (And.intro rfl (trivial)))))))) (hK390 s6_55 h)
  · refine dk_iload_n 62 2 dL_texts_61 rfl rfl rfl ?_
    refine dk_iload 64 7 dL_texts_62 rfl rfl ?_
    refine dk_iconst 65 3 dL_texts_64 rfl rfl ?_
    refine dk_iadd 66 dL_texts_65 rfl ?_
    refine dk_imul 67 dL_texts_66 rfl ?_
    refine dk_sipush 70 313 dL_texts_67 rfl rfl ?_
    refine dk_iload 72 7 dL_texts_70 rfl rfl ?_
    refine dk_imul 73 dL_texts_72 rfl ?_
    refine dk_iadd 74 dL_texts_73 rfl ?_
    refine dk_istore 76 8 [some (.ref 0), some (.ref a1), some (.int a2), some (.int p3_55), some (.ref p4_55), some (.ref p5_55), some (.int s6_55), some (.int s7_55), some (.int ((a2 * (s7_55 + (3 : Int32))) + ((313 : Int32) * s7_55))), none, none] dL_texts_74 rfl (by decide) rfl ?_
    refine dk_iload 78 8 dL_texts_76 rfl rfl ?_
    refine dk_iconst 79 3 dL_texts_78 rfl rfl ?_
    refine dk_ishr 80 dL_texts_79 rfl ?_
    refine dk_iconst 81 0 dL_texts_80 rfl rfl ?_
    refine dk_aload_n 82 1 dL_texts_81 rfl rfl rfl ?_
    refine dk_getIN 85 dL_texts_82 rfl rfl FN_EncoresLaw_62 (fun a_82 _ => ?_)
    refine dk_if_ne 92 88 dL_texts_85 (by decide) rfl (fun _ => ?_) (fun _ => ?_)
    · refine dk_iconst 93 3 dL_texts_92 rfl rfl ?_
      exact dk_less [some (.ref 0), some (.ref a1), some (.int a2), some (.int p3_55), some (.ref p4_55), some (.ref p5_55), some (.int s6_55), some (.int s7_55), some (.int ((a2 * (s7_55 + (3 : Int32))) + ((313 : Int32) * s7_55))), none, none] (And.intro rfl (And.intro rfl (And.intro rfl (And.intro rfl (And.intro rfl (And.intro rfl (And.intro rfl (And.intro rfl (And.intro rfl (trivial)))))))))) (dj_L_texts_J93_55 (SX := SX) N d a1 a2 p3_55 p4_55 p5_55 K390 X hK390 hX s6_55 s7_55 ((a2 * (s7_55 + (3 : Int32))) + ((313 : Int32) * s7_55)) (3 : Int32) (0 : Int32) (((a2 * (s7_55 + (3 : Int32))) + ((313 : Int32) * s7_55)) >>> ((3 : Int32) &&& 31)) h)
    · refine dk_iconst 89 2 dL_texts_88 rfl rfl ?_
      refine dk_goto 93 dL_texts_89 (by decide) ?_
      exact dk_less [some (.ref 0), some (.ref a1), some (.int a2), some (.int p3_55), some (.ref p4_55), some (.ref p5_55), some (.int s6_55), some (.int s7_55), some (.int ((a2 * (s7_55 + (3 : Int32))) + ((313 : Int32) * s7_55))), none, none] (And.intro rfl (And.intro rfl (And.intro rfl (And.intro rfl (And.intro rfl (And.intro rfl (And.intro rfl (And.intro rfl (And.intro rfl (trivial)))))))))) (dj_L_texts_J93_55 (SX := SX) N d a1 a2 p3_55 p4_55 p5_55 K390 X hK390 hX s6_55 s7_55 ((a2 * (s7_55 + (3 : Int32))) + ((313 : Int32) * s7_55)) (2 : Int32) (0 : Int32) (((a2 * (s7_55 + (3 : Int32))) + ((313 : Int32) * s7_55)) >>> ((3 : Int32) &&& 31)) h)

set_option maxRecDepth 100000 in
set_option maxHeartbeats 4000000 in
theorem dl_L_texts_L55 (N d : Nat) (a1 : Nat) (a2 : Int32) (p3_55 : Int32) (p4_55 : Nat) (p5_55 : Nat) (K390 : Int32 → DS → DA) (hK390 : ∀ (k6 : Int32) (h : DS), DOk SX (d + 10) m_L_texts 390 [some (.ref 0), some (.ref a1), some (.int a2), some (.int p3_55), some (.ref p4_55), some (.ref p5_55), some (.int k6), none, none, none, none] [] h (K390 k6 h)) : ∀ (n : Nat) (a : (Int32 × Int32)) (h : DS), DOk SX (d + 10) m_L_texts 55 [some (.ref 0), some (.ref a1), some (.int a2), some (.int p3_55), some (.ref p4_55), some (.ref p5_55), some (.int a.1), some (.int a.2), none, none, none] [] h (jt (fun Y a hz => g_L_texts_L55 N a1 a2 p3_55 p4_55 p5_55 K390 Y a.1 a.2 hz) n a h) :=
  dk_jt (fun a => [some (.ref 0), some (.ref a1), some (.int a2), some (.int p3_55), some (.ref p4_55), some (.ref p5_55), some (.int a.1), some (.int a.2), none, none, none]) (fun X hX a h => db_L_texts_L55 (SX := SX) N d a1 a2 p3_55 p4_55 p5_55 K390 hK390 X hX a.1 a.2 h)

set_option maxRecDepth 100000 in
set_option maxHeartbeats 4000000 in
theorem db_L_texts_L402 (N d : Nat) (a1 : Nat) (a2 : Int32) (p3_402 : Int32) (p4_402 : Nat) (p5_402 : Nat) (p6_402 : Int32) (K427 : DS → DA) (hK427 : ∀  (h : DS), DOk SX (d + 10) m_L_texts 427 [some (.ref 0), some (.ref a1), some (.int a2), some (.int p3_402), some (.ref p4_402), none, none, none, none, none, none] [] h (K427 h)) (X : Int32 → DS → DA) (hX : ∀ (a : Int32) (h : DS), DOk SX (d + 10) m_L_texts 402 [some (.ref 0), some (.ref a1), some (.int a2), some (.int p3_402), some (.ref p4_402), some (.ref p5_402), some (.int p6_402), some (.int a), none, none, none] [] h (X a h)) (s7_402 : Int32) (h : DS) : DOk SX (d + 10) m_L_texts 402 [some (.ref 0), some (.ref a1), some (.int a2), some (.int p3_402), some (.ref p4_402), some (.ref p5_402), some (.int p6_402), some (.int s7_402), none, none, none] [] h (g_L_texts_L402 N a1 a2 p3_402 p4_402 p5_402 p6_402 K427 X s7_402 h) := by
  unfold g_L_texts_L402
  refine dk_iload 404 7 dL_texts_402 rfl rfl ?_
  refine dk_iload 406 6 dL_texts_404 rfl rfl ?_
  refine dk_icmp_ge 427 409 dL_texts_406 (by decide) rfl (fun _ => ?_) (fun _ => ?_)
  · exact dk_less [some (.ref 0), some (.ref a1), some (.int a2), some (.int p3_402), some (.ref p4_402), none, none, none, none, none, none] (And.intro rfl (And.intro rfl (And.intro rfl (And.intro rfl (And.intro rfl (trivial)))))) (hK427 h)
  · refine dk_aload_n 410 1 dL_texts_409 rfl rfl rfl ?_
    refine dk_getRN 413 dL_texts_410 rfl rfl FN_EncoresLaw_91 (fun r_410 _ => ?_)
    refine dk_iload 415 7 dL_texts_413 rfl rfl ?_
    refine dk_aload 417 5 dL_texts_415 rfl rfl ?_
    refine dk_iload 419 7 dL_texts_417 rfl rfl ?_
    refine dk_aald 103 420 (Or.inl rfl) dL_texts_419 rfl (fun r_419 _ => ?_)
    refine dk_aast 103 421 (Or.inl rfl) dL_texts_420 rfl (fun h_420 _ => ?_)
    refine dk_iinc 424 7 1 [some (.ref 0), some (.ref a1), some (.int a2), some (.int p3_402), some (.ref p4_402), some (.ref p5_402), some (.int p6_402), some (.int (s7_402 + 1)), none, none, none] dL_texts_421 rfl rfl rfl (by decide) rfl ?_
    refine dk_goto 402 dL_texts_424 (by decide) ?_
    exact dk_less [some (.ref 0), some (.ref a1), some (.int a2), some (.int p3_402), some (.ref p4_402), some (.ref p5_402), some (.int p6_402), some (.int (s7_402 + 1)), none, none, none] (And.intro rfl (And.intro rfl (And.intro rfl (And.intro rfl (And.intro rfl (And.intro rfl (And.intro rfl (And.intro rfl (trivial))))))))) (hX ((s7_402 + 1)) h_420)

set_option maxRecDepth 100000 in
set_option maxHeartbeats 4000000 in
theorem dl_L_texts_L402 (N d : Nat) (a1 : Nat) (a2 : Int32) (p3_402 : Int32) (p4_402 : Nat) (p5_402 : Nat) (p6_402 : Int32) (K427 : DS → DA) (hK427 : ∀  (h : DS), DOk SX (d + 10) m_L_texts 427 [some (.ref 0), some (.ref a1), some (.int a2), some (.int p3_402), some (.ref p4_402), none, none, none, none, none, none] [] h (K427 h)) : ∀ (n : Nat) (a : Int32) (h : DS), DOk SX (d + 10) m_L_texts 402 [some (.ref 0), some (.ref a1), some (.int a2), some (.int p3_402), some (.ref p4_402), some (.ref p5_402), some (.int p6_402), some (.int a), none, none, none] [] h (jt (fun Y a hz => g_L_texts_L402 N a1 a2 p3_402 p4_402 p5_402 p6_402 K427 Y a hz) n a h) :=
  dk_jt (fun a => [some (.ref 0), some (.ref a1), some (.int a2), some (.int p3_402), some (.ref p4_402), some (.ref p5_402), some (.int p6_402), some (.int a), none, none, none]) (fun X hX a h => db_L_texts_L402 (SX := SX) N d a1 a2 p3_402 p4_402 p5_402 p6_402 K427 hK427 X hX a h)

set_option maxRecDepth 100000 in
set_option maxHeartbeats 4000000 in
theorem db_L_texts_L488 (N d : Nat) (a1 : Nat) (a2 : Int32) (p3_488 : Int32) (p4_488 : Nat) (K612 : DS → DA) (hK612 : ∀  (h : DS), DOk SX (d + 10) m_L_texts 612 [some (.ref 0), some (.ref a1), some (.int a2), some (.int p3_488), some (.ref p4_488), none, none, none, none, none, none] [] h (K612 h)) (X : Int32 → DS → DA) (hX : ∀ (a : Int32) (h : DS), DOk SX (d + 10) m_L_texts 488 [some (.ref 0), some (.ref a1), some (.int a2), some (.int p3_488), some (.ref p4_488), none, none, some (.int a), none, none, none] [] h (X a h)) (s7_488 : Int32) (h : DS) : DOk SX (d + 10) m_L_texts 488 [some (.ref 0), some (.ref a1), some (.int a2), some (.int p3_488), some (.ref p4_488), none, none, some (.int s7_488), none, none, none] [] h (g_L_texts_L488 N a1 a2 p3_488 p4_488 K612 X s7_488 h) := by
  unfold g_L_texts_L488
  refine dk_iload 490 7 dL_texts_488 rfl rfl ?_
  refine dk_iload_n 491 3 dL_texts_490 rfl rfl rfl ?_
  refine dk_icmp_ge 612 494 dL_texts_491 (by decide) rfl (fun _ => ?_) (fun _ => ?_)
  · exact dk_less [some (.ref 0), some (.ref a1), some (.int a2), some (.int p3_488), some (.ref p4_488), none, none, none, none, none, none] (And.intro rfl (And.intro rfl (And.intro rfl (And.intro rfl (And.intro rfl (trivial)))))) (hK612 h)
  · refine dk_iload_n 495 2 dL_texts_494 rfl rfl rfl ?_
    refine dk_iload 497 7 dL_texts_495 rfl rfl ?_
    refine dk_iconst 498 5 dL_texts_497 rfl rfl ?_
    refine dk_iadd 499 dL_texts_498 rfl ?_
    refine dk_imul 500 dL_texts_499 rfl ?_
    refine dk_sipush 503 317 dL_texts_500 rfl rfl ?_
    refine dk_iload 505 7 dL_texts_503 rfl rfl ?_
    refine dk_imul 506 dL_texts_505 rfl ?_
    refine dk_iadd 507 dL_texts_506 rfl ?_
    refine dk_istore 509 8 [some (.ref 0), some (.ref a1), some (.int a2), some (.int p3_488), some (.ref p4_488), none, none, some (.int s7_488), some (.int ((a2 * (s7_488 + (5 : Int32))) + ((317 : Int32) * s7_488))), none, none] dL_texts_507 rfl (by decide) rfl ?_
    refine dk_aload_n 510 1 dL_texts_509 rfl rfl rfl ?_
    refine dk_getRN 513 dL_texts_510 rfl rfl FN_EncoresLaw_106 (fun r_510 _ => ?_)
    refine dk_iload 515 7 dL_texts_513 rfl rfl ?_
    refine dk_iconst 516 2 dL_texts_515 rfl rfl ?_
    refine dk_newaI 518 dL_texts_516 rfl (fun h_516 _ => ?_)
    refine dk_dup 519 dL_texts_518 rfl rfl ?_
    refine dk_iconst 520 0 dL_texts_519 rfl rfl ?_
    refine dk_iload 522 8 dL_texts_520 rfl rfl ?_
    refine dk_iconst 523 3 dL_texts_522 rfl rfl ?_
    refine dk_ishr 524 dL_texts_523 rfl ?_
    refine dk_iconst 525 0 dL_texts_524 rfl rfl ?_
    refine dk_sipush 528 250 dL_texts_525 rfl rfl ?_
    refine dk_callS (np := 3) (M' := m_L_between) (As := [.int (((a2 * (s7_488 + (5 : Int32))) + ((317 : Int32) * s7_488)) >>> ((3 : Int32) &&& 31)), .int 0, .int 250]) (st := [.int 0, .ref h.2.1.length, .ref h.2.1.length, .int s7_488, .ref r_510]) 531 dL_texts_528 rfl rfl km_L_between ks_L_between ml_EncoresLaw_37 (by decide) rfl rfl (Nat.le_of_ble_eq_true rfl) (dc_L_between N (d + 9) (((a2 * (s7_488 + (5 : Int32))) + ((317 : Int32) * s7_488)) >>> ((3 : Int32) &&& 31)) (0 : Int32) (250 : Int32) h_516) (fun v_528 h_528 e_528 => ?_)
    show DOk _ _ _ _ _ (.int v_528 :: [.int 0, .ref h.2.1.length, .ref h.2.1.length, .int s7_488, .ref r_510]) _ _
    refine dk_iast 532 dL_texts_531 rfl (fun h_531 _ => ?_)
    refine dk_dup 533 dL_texts_532 rfl rfl ?_
    refine dk_iconst 534 1 dL_texts_533 rfl rfl ?_
    refine dk_iload 536 8 dL_texts_534 rfl rfl ?_
    refine dk_bipush 538 6 dL_texts_536 rfl rfl ?_
    refine dk_ishr 539 dL_texts_538 rfl ?_
    refine dk_iconst 540 0 dL_texts_539 rfl rfl ?_
    refine dk_aload_n 541 1 dL_texts_540 rfl rfl rfl ?_
    refine dk_getIN 544 dL_texts_541 rfl rfl FN_EncoresLaw_103 (fun a_541 _ => ?_)
    refine dk_iconst 545 1 dL_texts_544 rfl rfl ?_
    refine dk_isub 546 dL_texts_545 rfl ?_
    refine dk_callS (np := 3) (M' := m_L_between) (As := [.int (((a2 * (s7_488 + (5 : Int32))) + ((317 : Int32) * s7_488)) >>> ((6 : Int32) &&& 31)), .int 0, .int (a_541 - (1 : Int32))]) (st := [.int 1, .ref h.2.1.length, .ref h.2.1.length, .int s7_488, .ref r_510]) 549 dL_texts_546 rfl rfl km_L_between ks_L_between ml_EncoresLaw_37 (by decide) rfl rfl (Nat.le_of_ble_eq_true rfl) (dc_L_between N (d + 9) (((a2 * (s7_488 + (5 : Int32))) + ((317 : Int32) * s7_488)) >>> ((6 : Int32) &&& 31)) (0 : Int32) (a_541 - (1 : Int32)) h_531) (fun v_546 h_546 e_546 => ?_)
    show DOk _ _ _ _ _ (.int v_546 :: [.int 1, .ref h.2.1.length, .ref h.2.1.length, .int s7_488, .ref r_510]) _ _
    refine dk_iast 550 dL_texts_549 rfl (fun h_549 _ => ?_)
    refine dk_aast 103 551 (Or.inl rfl) dL_texts_550 rfl (fun h_550 _ => ?_)
    refine dk_aload 553 4 dL_texts_551 rfl rfl ?_
    refine dk_new (ty := ty13) (ci := 13) 556 dL_texts_553 rfl rfl kl_EncoresLaw_43 in_java_lang_StringBuilder wi_java_lang_StringBuilder (by decide) rfl ty13_ok dv_13 (fun h_553 _ => ?_)
    refine dk_dup 557 dL_texts_556 rfl rfl ?_
    refine dk_callI (np := 0) (M' := m_J4_init_da8c8) (As := []) (st := [.ref h_550.2.1.length, .ref p4_488]) 560 dL_texts_557 rfl rfl km_J4_init_da8c8 ki_J4_init_da8c8 ml_EncoresLaw_45 (by decide) rfl rfl rfl rfl (Nat.le_of_ble_eq_true rfl) (dc_J4_init_da8c8 N (d + 7) h_550.2.1.length h_553) (fun v_557 h_557 e_557 => ?_)
    refine dk_ldcS 562 7 1000206 dL_texts_560 rfl rfl rfl rfl ?_
    refine dk_callV (np := 1) (M' := m_J4_append_15ec4) (As := [.ref 1000206]) (st := [.ref p4_488]) 13 565 dL_texts_562 rfl rfl km_J4_append_15ec4 ki_J4_append_15ec4 kv_J4_append_15ec4 ml_EncoresLaw_70 (by decide) (by decide) rfl rfl rfl (Nat.le_of_ble_eq_true rfl) (dc_J4_append_15ec4 N (d + 4) h_550.2.1.length 1000206 h_557) (fun v_562 h_562 e_562 => ?_)
    show DOk _ _ _ _ _ ((if v_562 = -1 then Value.null else .ref v_562.toNatClampNeg) :: [.ref p4_488]) _ _
    refine dk_rr (fun r_562 => ?_)
    refine dk_aload_n 566 1 dL_texts_565 rfl rfl rfl ?_
    refine dk_getRN 569 dL_texts_566 rfl rfl FN_EncoresLaw_106 (fun r_566 _ => ?_)
    refine dk_iload 571 7 dL_texts_569 rfl rfl ?_
    refine dk_aald 103 572 (Or.inl rfl) dL_texts_571 rfl (fun r_571 _ => ?_)
    refine dk_iconst 573 0 dL_texts_572 rfl rfl ?_
    refine dk_iald 574 dL_texts_573 rfl (fun a_573 _ => ?_)
    refine dk_callV (np := 1) (M' := m_J4_append_bf812) (As := [.int a_573]) (st := [.ref p4_488]) 13 577 dL_texts_574 rfl rfl km_J4_append_bf812 ki_J4_append_bf812 kv_J4_append_bf812 ml_EncoresLaw_74 (by decide) (by decide) rfl rfl rfl (Nat.le_of_ble_eq_true rfl) (dc_J4_append_bf812 N (d + 4) r_562 a_573 h_562) (fun v_574 h_574 e_574 => ?_)
    show DOk _ _ _ _ _ ((if v_574 = -1 then Value.null else .ref v_574.toNatClampNeg) :: [.ref p4_488]) _ _
    refine dk_rr (fun r_574 => ?_)
    refine dk_ldcS 579 8 1000207 dL_texts_577 rfl rfl rfl rfl ?_
    refine dk_callV (np := 1) (M' := m_J4_append_15ec4) (As := [.ref 1000207]) (st := [.ref p4_488]) 13 582 dL_texts_579 rfl rfl km_J4_append_15ec4 ki_J4_append_15ec4 kv_J4_append_15ec4 ml_EncoresLaw_70 (by decide) (by decide) rfl rfl rfl (Nat.le_of_ble_eq_true rfl) (dc_J4_append_15ec4 N (d + 4) r_574 1000207 h_574) (fun v_579 h_579 e_579 => ?_)
    show DOk _ _ _ _ _ ((if v_579 = -1 then Value.null else .ref v_579.toNatClampNeg) :: [.ref p4_488]) _ _
    refine dk_rr (fun r_579 => ?_)
    refine dk_aload_n 583 1 dL_texts_582 rfl rfl rfl ?_
    refine dk_getRN 586 dL_texts_583 rfl rfl FN_EncoresLaw_106 (fun r_583 _ => ?_)
    refine dk_iload 588 7 dL_texts_586 rfl rfl ?_
    refine dk_aald 103 589 (Or.inl rfl) dL_texts_588 rfl (fun r_588 _ => ?_)
    refine dk_iconst 590 1 dL_texts_589 rfl rfl ?_
    refine dk_iald 591 dL_texts_590 rfl (fun a_590 _ => ?_)
    refine dk_callV (np := 1) (M' := m_J4_append_bf812) (As := [.int a_590]) (st := [.ref p4_488]) 13 594 dL_texts_591 rfl rfl km_J4_append_bf812 ki_J4_append_bf812 kv_J4_append_bf812 ml_EncoresLaw_74 (by decide) (by decide) rfl rfl rfl (Nat.le_of_ble_eq_true rfl) (dc_J4_append_bf812 N (d + 4) r_579 a_590 h_579) (fun v_591 h_591 e_591 => ?_)
    show DOk _ _ _ _ _ ((if v_591 = -1 then Value.null else .ref v_591.toNatClampNeg) :: [.ref p4_488]) _ _
    refine dk_rr (fun r_591 => ?_)
    refine dk_ldcS 596 3 1000202 dL_texts_594 rfl rfl rfl rfl ?_
    refine dk_callV (np := 1) (M' := m_J4_append_15ec4) (As := [.ref 1000202]) (st := [.ref p4_488]) 13 599 dL_texts_596 rfl rfl km_J4_append_15ec4 ki_J4_append_15ec4 kv_J4_append_15ec4 ml_EncoresLaw_70 (by decide) (by decide) rfl rfl rfl (Nat.le_of_ble_eq_true rfl) (dc_J4_append_15ec4 N (d + 4) r_591 1000202 h_591) (fun v_596 h_596 e_596 => ?_)
    show DOk _ _ _ _ _ ((if v_596 = -1 then Value.null else .ref v_596.toNatClampNeg) :: [.ref p4_488]) _ _
    refine dk_rr (fun r_596 => ?_)
    refine dk_callV (np := 0) (M' := m_J4_toString_0e30d) (As := []) (st := [.ref p4_488]) 13 602 dL_texts_599 rfl rfl km_J4_toString_0e30d ki_J4_toString_0e30d kv_J4_toString_0e30d ml_EncoresLaw_81 (by decide) (by decide) rfl rfl rfl (Nat.le_of_ble_eq_true rfl) (dc_J4_toString_0e30d N (d + 4) r_596 h_596) (fun v_599 h_599 e_599 => ?_)
    show DOk _ _ _ _ _ ((if v_599 = -1 then Value.null else .ref v_599.toNatClampNeg) :: [.ref p4_488]) _ _
    refine dk_rr (fun r_599 => ?_)
    refine dk_callV (np := 1) (M' := m_J4_append_15ec4) (As := [.ref r_599]) (st := []) 13 605 dL_texts_602 rfl rfl km_J4_append_15ec4 ki_J4_append_15ec4 kv_J4_append_15ec4 ml_EncoresLaw_70 (by decide) (by decide) rfl rfl rfl (Nat.le_of_ble_eq_true rfl) (dc_J4_append_15ec4 N (d + 4) p4_488 r_599 h_599) (fun v_602 h_602 e_602 => ?_)
    show DOk _ _ _ _ _ ((if v_602 = -1 then Value.null else .ref v_602.toNatClampNeg) :: []) _ _
    refine dk_rr (fun r_602 => ?_)
    refine dk_pop 606 dL_texts_605 rfl rfl ?_
    refine dk_iinc 609 7 1 [some (.ref 0), some (.ref a1), some (.int a2), some (.int p3_488), some (.ref p4_488), none, none, some (.int (s7_488 + 1)), some (.int ((a2 * (s7_488 + (5 : Int32))) + ((317 : Int32) * s7_488))), none, none] dL_texts_606 rfl rfl rfl (by decide) rfl ?_
    refine dk_goto 488 dL_texts_609 (by decide) ?_
    exact dk_less [some (.ref 0), some (.ref a1), some (.int a2), some (.int p3_488), some (.ref p4_488), none, none, some (.int (s7_488 + 1)), none, none, none] (And.intro rfl (And.intro rfl (And.intro rfl (And.intro rfl (And.intro rfl (And.intro rfl (trivial))))))) (hX ((s7_488 + 1)) h_602)

set_option maxRecDepth 100000 in
set_option maxHeartbeats 4000000 in
theorem dl_L_texts_L488 (N d : Nat) (a1 : Nat) (a2 : Int32) (p3_488 : Int32) (p4_488 : Nat) (K612 : DS → DA) (hK612 : ∀  (h : DS), DOk SX (d + 10) m_L_texts 612 [some (.ref 0), some (.ref a1), some (.int a2), some (.int p3_488), some (.ref p4_488), none, none, none, none, none, none] [] h (K612 h)) : ∀ (n : Nat) (a : Int32) (h : DS), DOk SX (d + 10) m_L_texts 488 [some (.ref 0), some (.ref a1), some (.int a2), some (.int p3_488), some (.ref p4_488), none, none, some (.int a), none, none, none] [] h (jt (fun Y a hz => g_L_texts_L488 N a1 a2 p3_488 p4_488 K612 Y a hz) n a h) :=
  dk_jt (fun a => [some (.ref 0), some (.ref a1), some (.int a2), some (.int p3_488), some (.ref p4_488), none, none, some (.int a), none, none, none]) (fun X hX a h => db_L_texts_L488 (SX := SX) N d a1 a2 p3_488 p4_488 K612 hK612 X hX a h)

set_option maxRecDepth 100000 in
set_option maxHeartbeats 4000000 in
theorem db_L_texts_L680 (N d : Nat) (a1 : Nat) (a2 : Int32) (p3_680 : Int32) (p4_680 : Nat) (K815 : DS → DA) (hK815 : ∀  (h : DS), DOk SX (d + 10) m_L_texts 815 [some (.ref 0), none, none, some (.int p3_680), some (.ref p4_680), none, none, none, none, none, none] [] h (K815 h)) (X : Int32 → DS → DA) (hX : ∀ (a : Int32) (h : DS), DOk SX (d + 10) m_L_texts 680 [some (.ref 0), some (.ref a1), some (.int a2), some (.int p3_680), some (.ref p4_680), none, none, some (.int a), none, none, none] [] h (X a h)) (s7_680 : Int32) (h : DS) : DOk SX (d + 10) m_L_texts 680 [some (.ref 0), some (.ref a1), some (.int a2), some (.int p3_680), some (.ref p4_680), none, none, some (.int s7_680), none, none, none] [] h (g_L_texts_L680 N a1 a2 p3_680 p4_680 K815 X s7_680 h) := by
  unfold g_L_texts_L680
  refine dk_iload 682 7 dL_texts_680 rfl rfl ?_
  refine dk_iload_n 683 3 dL_texts_682 rfl rfl rfl ?_
  refine dk_icmp_ge 815 686 dL_texts_683 (by decide) rfl (fun _ => ?_) (fun _ => ?_)
  · exact dk_less [some (.ref 0), none, none, some (.int p3_680), some (.ref p4_680), none, none, none, none, none, none] (And.intro rfl (And.intro rfl (And.intro rfl (trivial)))) (hK815 h)
  · refine dk_iload_n 687 2 dL_texts_686 rfl rfl rfl ?_
    refine dk_iload 689 7 dL_texts_687 rfl rfl ?_
    refine dk_bipush 691 7 dL_texts_689 rfl rfl ?_
    refine dk_iadd 692 dL_texts_691 rfl ?_
    refine dk_imul 693 dL_texts_692 rfl ?_
    refine dk_sipush 696 331 dL_texts_693 rfl rfl ?_
    refine dk_iload 698 7 dL_texts_696 rfl rfl ?_
    refine dk_imul 699 dL_texts_698 rfl ?_
    refine dk_iadd 700 dL_texts_699 rfl ?_
    refine dk_istore 702 8 [some (.ref 0), some (.ref a1), some (.int a2), some (.int p3_680), some (.ref p4_680), none, none, some (.int s7_680), some (.int ((a2 * (s7_680 + (7 : Int32))) + ((331 : Int32) * s7_680))), none, none] dL_texts_700 rfl (by decide) rfl ?_
    refine dk_iload 704 8 dL_texts_702 rfl rfl ?_
    refine dk_iconst 705 0 dL_texts_704 rfl rfl ?_
    refine dk_aload_n 706 1 dL_texts_705 rfl rfl rfl ?_
    refine dk_getIN 709 dL_texts_706 rfl rfl FN_EncoresLaw_62 (fun a_706 _ => ?_)
    refine dk_iconst 710 1 dL_texts_709 rfl rfl ?_
    refine dk_isub 711 dL_texts_710 rfl ?_
    refine dk_callS (np := 3) (M' := m_L_between) (As := [.int ((a2 * (s7_680 + (7 : Int32))) + ((331 : Int32) * s7_680)), .int 0, .int (a_706 - (1 : Int32))]) (st := []) 714 dL_texts_711 rfl rfl km_L_between ks_L_between ml_EncoresLaw_37 (by decide) rfl rfl (Nat.le_of_ble_eq_true rfl) (dc_L_between N (d + 9) ((a2 * (s7_680 + (7 : Int32))) + ((331 : Int32) * s7_680)) (0 : Int32) (a_706 - (1 : Int32)) h) (fun v_711 h_711 e_711 => ?_)
    show DOk _ _ _ _ _ (.int v_711 :: []) _ _
    refine dk_istore 716 9 [some (.ref 0), some (.ref a1), some (.int a2), some (.int p3_680), some (.ref p4_680), none, none, some (.int s7_680), some (.int ((a2 * (s7_680 + (7 : Int32))) + ((331 : Int32) * s7_680))), some (.int v_711), none] dL_texts_714 rfl (by decide) rfl ?_
    refine dk_iload 718 9 dL_texts_716 rfl rfl ?_
    refine dk_iload 720 8 dL_texts_718 rfl rfl ?_
    refine dk_iconst 721 4 dL_texts_720 rfl rfl ?_
    refine dk_ishr 722 dL_texts_721 rfl ?_
    refine dk_iconst 723 1 dL_texts_722 rfl rfl ?_
    refine dk_aload_n 724 1 dL_texts_723 rfl rfl rfl ?_
    refine dk_getIN 727 dL_texts_724 rfl rfl FN_EncoresLaw_62 (fun a_724 _ => ?_)
    refine dk_iconst 728 1 dL_texts_727 rfl rfl ?_
    refine dk_isub 729 dL_texts_728 rfl ?_
    refine dk_callS (np := 3) (M' := m_L_between) (As := [.int (((a2 * (s7_680 + (7 : Int32))) + ((331 : Int32) * s7_680)) >>> ((4 : Int32) &&& 31)), .int 1, .int (a_724 - (1 : Int32))]) (st := [.int v_711]) 732 dL_texts_729 rfl rfl km_L_between ks_L_between ml_EncoresLaw_37 (by decide) rfl rfl (Nat.le_of_ble_eq_true rfl) (dc_L_between N (d + 9) (((a2 * (s7_680 + (7 : Int32))) + ((331 : Int32) * s7_680)) >>> ((4 : Int32) &&& 31)) (1 : Int32) (a_724 - (1 : Int32)) h_711) (fun v_729 h_729 e_729 => ?_)
    show DOk _ _ _ _ _ (.int v_729 :: [.int v_711]) _ _
    refine dk_iadd 733 dL_texts_732 rfl ?_
    refine dk_aload_n 734 1 dL_texts_733 rfl rfl rfl ?_
    refine dk_getIN 737 dL_texts_734 rfl rfl FN_EncoresLaw_62 (fun a_734 _ => ?_)
    refine dk_irem 738 dL_texts_737 rfl ?_
    refine dk_istore 740 10 [some (.ref 0), some (.ref a1), some (.int a2), some (.int p3_680), some (.ref p4_680), none, none, some (.int s7_680), some (.int ((a2 * (s7_680 + (7 : Int32))) + ((331 : Int32) * s7_680))), some (.int v_711), some (.int (irm (v_711 + v_729) a_734))] dL_texts_738 rfl (by decide) rfl ?_
    refine dk_aload_n 741 1 dL_texts_740 rfl rfl rfl ?_
    refine dk_getRN 744 dL_texts_741 rfl rfl FN_EncoresLaw_113 (fun r_741 _ => ?_)
    refine dk_iload 746 9 dL_texts_744 rfl rfl ?_
    refine dk_dup2 747 dL_texts_746 rfl rfl rfl ?_
    refine dk_iald 748 dL_texts_747 rfl (fun a_747 _ => ?_)
    refine dk_iconst 749 1 dL_texts_748 rfl rfl ?_
    refine dk_iload 751 10 dL_texts_749 rfl rfl ?_
    refine dk_ishl 752 dL_texts_751 rfl ?_
    refine dk_ior 753 dL_texts_752 rfl ?_
    refine dk_iast 754 dL_texts_753 rfl (fun h_753 _ => ?_)
    refine dk_aload_n 755 1 dL_texts_754 rfl rfl rfl ?_
    refine dk_getRN 758 dL_texts_755 rfl rfl FN_EncoresLaw_113 (fun r_755 _ => ?_)
    refine dk_iload 760 10 dL_texts_758 rfl rfl ?_
    refine dk_dup2 761 dL_texts_760 rfl rfl rfl ?_
    refine dk_iald 762 dL_texts_761 rfl (fun a_761 _ => ?_)
    refine dk_iconst 763 1 dL_texts_762 rfl rfl ?_
    refine dk_iload 765 9 dL_texts_763 rfl rfl ?_
    refine dk_ishl 766 dL_texts_765 rfl ?_
    refine dk_ior 767 dL_texts_766 rfl ?_
    refine dk_iast 768 dL_texts_767 rfl (fun h_767 _ => ?_)
    refine dk_aload 770 4 dL_texts_768 rfl rfl ?_
    refine dk_new (ty := ty13) (ci := 13) 773 dL_texts_770 rfl rfl kl_EncoresLaw_43 in_java_lang_StringBuilder wi_java_lang_StringBuilder (by decide) rfl ty13_ok dv_13 (fun h_770 _ => ?_)
    refine dk_dup 774 dL_texts_773 rfl rfl ?_
    refine dk_callI (np := 0) (M' := m_J4_init_da8c8) (As := []) (st := [.ref h_767.2.1.length, .ref p4_680]) 777 dL_texts_774 rfl rfl km_J4_init_da8c8 ki_J4_init_da8c8 ml_EncoresLaw_45 (by decide) rfl rfl rfl rfl (Nat.le_of_ble_eq_true rfl) (dc_J4_init_da8c8 N (d + 7) h_767.2.1.length h_770) (fun v_774 h_774 e_774 => ?_)
    refine dk_ldcS 779 9 1000208 dL_texts_777 rfl rfl rfl rfl ?_
    refine dk_callV (np := 1) (M' := m_J4_append_15ec4) (As := [.ref 1000208]) (st := [.ref p4_680]) 13 782 dL_texts_779 rfl rfl km_J4_append_15ec4 ki_J4_append_15ec4 kv_J4_append_15ec4 ml_EncoresLaw_70 (by decide) (by decide) rfl rfl rfl (Nat.le_of_ble_eq_true rfl) (dc_J4_append_15ec4 N (d + 4) h_767.2.1.length 1000208 h_774) (fun v_779 h_779 e_779 => ?_)
    show DOk _ _ _ _ _ ((if v_779 = -1 then Value.null else .ref v_779.toNatClampNeg) :: [.ref p4_680]) _ _
    refine dk_rr (fun r_779 => ?_)
    refine dk_iload 784 9 dL_texts_782 rfl rfl ?_
    refine dk_callV (np := 1) (M' := m_J4_append_bf812) (As := [.int v_711]) (st := [.ref p4_680]) 13 787 dL_texts_784 rfl rfl km_J4_append_bf812 ki_J4_append_bf812 kv_J4_append_bf812 ml_EncoresLaw_74 (by decide) (by decide) rfl rfl rfl (Nat.le_of_ble_eq_true rfl) (dc_J4_append_bf812 N (d + 4) r_779 v_711 h_779) (fun v_784 h_784 e_784 => ?_)
    show DOk _ _ _ _ _ ((if v_784 = -1 then Value.null else .ref v_784.toNatClampNeg) :: [.ref p4_680]) _ _
    refine dk_rr (fun r_784 => ?_)
    refine dk_ldcS 789 10 1000209 dL_texts_787 rfl rfl rfl rfl ?_
    refine dk_callV (np := 1) (M' := m_J4_append_15ec4) (As := [.ref 1000209]) (st := [.ref p4_680]) 13 792 dL_texts_789 rfl rfl km_J4_append_15ec4 ki_J4_append_15ec4 kv_J4_append_15ec4 ml_EncoresLaw_70 (by decide) (by decide) rfl rfl rfl (Nat.le_of_ble_eq_true rfl) (dc_J4_append_15ec4 N (d + 4) r_784 1000209 h_784) (fun v_789 h_789 e_789 => ?_)
    show DOk _ _ _ _ _ ((if v_789 = -1 then Value.null else .ref v_789.toNatClampNeg) :: [.ref p4_680]) _ _
    refine dk_rr (fun r_789 => ?_)
    refine dk_iload 794 10 dL_texts_792 rfl rfl ?_
    refine dk_callV (np := 1) (M' := m_J4_append_bf812) (As := [.int (irm (v_711 + v_729) a_734)]) (st := [.ref p4_680]) 13 797 dL_texts_794 rfl rfl km_J4_append_bf812 ki_J4_append_bf812 kv_J4_append_bf812 ml_EncoresLaw_74 (by decide) (by decide) rfl rfl rfl (Nat.le_of_ble_eq_true rfl) (dc_J4_append_bf812 N (d + 4) r_789 (irm (v_711 + v_729) a_734) h_789) (fun v_794 h_794 e_794 => ?_)
    show DOk _ _ _ _ _ ((if v_794 = -1 then Value.null else .ref v_794.toNatClampNeg) :: [.ref p4_680]) _ _
    refine dk_rr (fun r_794 => ?_)
    refine dk_ldcS 799 3 1000202 dL_texts_797 rfl rfl rfl rfl ?_
    refine dk_callV (np := 1) (M' := m_J4_append_15ec4) (As := [.ref 1000202]) (st := [.ref p4_680]) 13 802 dL_texts_799 rfl rfl km_J4_append_15ec4 ki_J4_append_15ec4 kv_J4_append_15ec4 ml_EncoresLaw_70 (by decide) (by decide) rfl rfl rfl (Nat.le_of_ble_eq_true rfl) (dc_J4_append_15ec4 N (d + 4) r_794 1000202 h_794) (fun v_799 h_799 e_799 => ?_)
    show DOk _ _ _ _ _ ((if v_799 = -1 then Value.null else .ref v_799.toNatClampNeg) :: [.ref p4_680]) _ _
    refine dk_rr (fun r_799 => ?_)
    refine dk_callV (np := 0) (M' := m_J4_toString_0e30d) (As := []) (st := [.ref p4_680]) 13 805 dL_texts_802 rfl rfl km_J4_toString_0e30d ki_J4_toString_0e30d kv_J4_toString_0e30d ml_EncoresLaw_81 (by decide) (by decide) rfl rfl rfl (Nat.le_of_ble_eq_true rfl) (dc_J4_toString_0e30d N (d + 4) r_799 h_799) (fun v_802 h_802 e_802 => ?_)
    show DOk _ _ _ _ _ ((if v_802 = -1 then Value.null else .ref v_802.toNatClampNeg) :: [.ref p4_680]) _ _
    refine dk_rr (fun r_802 => ?_)
    refine dk_callV (np := 1) (M' := m_J4_append_15ec4) (As := [.ref r_802]) (st := []) 13 808 dL_texts_805 rfl rfl km_J4_append_15ec4 ki_J4_append_15ec4 kv_J4_append_15ec4 ml_EncoresLaw_70 (by decide) (by decide) rfl rfl rfl (Nat.le_of_ble_eq_true rfl) (dc_J4_append_15ec4 N (d + 4) p4_680 r_802 h_802) (fun v_805 h_805 e_805 => ?_)
    show DOk _ _ _ _ _ ((if v_805 = -1 then Value.null else .ref v_805.toNatClampNeg) :: []) _ _
    refine dk_rr (fun r_805 => ?_)
    refine dk_pop 809 dL_texts_808 rfl rfl ?_
    refine dk_iinc 812 7 1 [some (.ref 0), some (.ref a1), some (.int a2), some (.int p3_680), some (.ref p4_680), none, none, some (.int (s7_680 + 1)), some (.int ((a2 * (s7_680 + (7 : Int32))) + ((331 : Int32) * s7_680))), some (.int v_711), some (.int (irm (v_711 + v_729) a_734))] dL_texts_809 rfl rfl rfl (by decide) rfl ?_
    refine dk_goto 680 dL_texts_812 (by decide) ?_
    exact dk_less [some (.ref 0), some (.ref a1), some (.int a2), some (.int p3_680), some (.ref p4_680), none, none, some (.int (s7_680 + 1)), none, none, none] (And.intro rfl (And.intro rfl (And.intro rfl (And.intro rfl (And.intro rfl (And.intro rfl (trivial))))))) (hX ((s7_680 + 1)) h_805)

set_option maxRecDepth 100000 in
set_option maxHeartbeats 4000000 in
theorem dl_L_texts_L680 (N d : Nat) (a1 : Nat) (a2 : Int32) (p3_680 : Int32) (p4_680 : Nat) (K815 : DS → DA) (hK815 : ∀  (h : DS), DOk SX (d + 10) m_L_texts 815 [some (.ref 0), none, none, some (.int p3_680), some (.ref p4_680), none, none, none, none, none, none] [] h (K815 h)) : ∀ (n : Nat) (a : Int32) (h : DS), DOk SX (d + 10) m_L_texts 680 [some (.ref 0), some (.ref a1), some (.int a2), some (.int p3_680), some (.ref p4_680), none, none, some (.int a), none, none, none] [] h (jt (fun Y a hz => g_L_texts_L680 N a1 a2 p3_680 p4_680 K815 Y a hz) n a h) :=
  dk_jt (fun a => [some (.ref 0), some (.ref a1), some (.int a2), some (.int p3_680), some (.ref p4_680), none, none, some (.int a), none, none, none]) (fun X hX a h => db_L_texts_L680 (SX := SX) N d a1 a2 p3_680 p4_680 K815 hK815 X hX a h)

set_option maxRecDepth 100000 in
set_option maxHeartbeats 4000000 in
theorem dj_L_texts_J654 (N d : Nat) (a1 : Nat) (a2 : Int32)   (t0_654 : Int32) (h : DS) : DOk SX (d + 10) m_L_texts 654 [some (.ref 0), some (.ref a1), some (.int a2), none, none, none, none, none, none, none, none] [.int t0_654] h (g_L_texts_J654 N a1 a2 t0_654 h) := by
  unfold g_L_texts_J654
  refine dk_istore_n 655 3 [some (.ref 0), some (.ref a1), some (.int a2), some (.int t0_654), none, none, none, none, none, none, none] dL_texts_654 rfl rfl (by decide) rfl ?_
  refine dk_new (ty := ty13) (ci := 13) 658 dL_texts_655 rfl rfl kl_EncoresLaw_43 in_java_lang_StringBuilder wi_java_lang_StringBuilder (by decide) rfl ty13_ok dv_13 (fun h_655 _ => ?_)
  refine dk_dup 659 dL_texts_658 rfl rfl ?_
  refine dk_callI (np := 0) (M' := m_J4_init_da8c8) (As := []) (st := [.ref h.2.1.length]) 662 dL_texts_659 rfl rfl km_J4_init_da8c8 ki_J4_init_da8c8 ml_EncoresLaw_45 (by decide) rfl rfl rfl rfl (Nat.le_of_ble_eq_true rfl) (dc_J4_init_da8c8 N (d + 7) h.2.1.length h_655) (fun v_659 h_659 e_659 => ?_)
  refine dk_astore 664 4 [some (.ref 0), some (.ref a1), some (.int a2), some (.int t0_654), some (.ref h.2.1.length), none, none, none, none, none, none] dL_texts_662 rfl (by decide) rfl ?_
  refine dk_aload_n 665 1 dL_texts_664 rfl rfl rfl ?_
  refine dk_bipush 667 12 dL_texts_665 rfl rfl ?_
  refine dk_newaI 669 dL_texts_667 rfl (fun h_667 _ => ?_)
  refine dk_putRN (o := (some h_659.2.1.length)) 672 dL_texts_669 rfl rfl FN_EncoresLaw_113 rfl pZ_12_20 (fun q => nr_a q) (fun q => ft_a q) (fun h_669 _ => ?_)
  refine dk_aload_n 673 1 dL_texts_672 rfl rfl rfl ?_
  refine dk_iload_n 674 3 dL_texts_673 rfl rfl rfl ?_
  refine dk_putIN 677 dL_texts_674 rfl rfl FN_EncoresLaw_116 rfl pZ_12_14 rfl rfl (fun h_674 _ => ?_)
  refine dk_iconst 678 0 dL_texts_677 rfl rfl ?_
  refine dk_istore 680 7 [some (.ref 0), some (.ref a1), some (.int a2), some (.int t0_654), some (.ref h.2.1.length), none, none, some (.int 0), none, none, none] dL_texts_678 rfl (by decide) rfl ?_
  refine dk_less [some (.ref 0), some (.ref a1), some (.int a2), some (.int t0_654), some (.ref h.2.1.length), none, none, some (.int 0), none, none, none] (And.intro rfl (And.intro rfl (And.intro rfl (And.intro rfl (And.intro rfl (And.intro rfl (trivial))))))) ?_
  exact dl_L_texts_L680 (SX := SX) N d a1 a2 t0_654 h.2.1.length (fun hk815 => chk (isT hk815 13 h.2.1.length) <| bd3 (g_J4_toString_0e30d N h.2.1.length hk815) fun v_818 h_818 =>
chk (decide (v_818 ≠ -1)) <| bnd v_818.toNatClampNeg fun r_818 =>
bd3 (g_L_say N r_818 h_818) fun v_821 h_821 =>
chk (isT h_821 11 0) <| bdX (f_X11_text N (3 : Int32) h_821.1) h_821 fun v_826 hh_826 => bnd (gs (f_X12_text N (3 : Int32)) hh_826) fun h_826 =>
if v_826 = t0_654 then (some ((1 : Int32), h_826))
else (some ((0 : Int32), h_826))) (fun hk815 => by
      refine dk_aload_n 816 0 dL_texts_815 rfl rfl rfl ?_
      refine dk_aload 818 4 dL_texts_816 rfl rfl ?_
      refine dk_callV (np := 0) (M' := m_J4_toString_0e30d) (As := []) (st := [.ref 0]) 13 821 dL_texts_818 rfl rfl km_J4_toString_0e30d ki_J4_toString_0e30d kv_J4_toString_0e30d ml_EncoresLaw_81 (by decide) (by decide) rfl rfl rfl (Nat.le_of_ble_eq_true rfl) (dc_J4_toString_0e30d N (d + 4) h.2.1.length hk815) (fun v_818 h_818 e_818 => ?_)
      show DOk _ _ _ _ _ ((if v_818 = -1 then Value.null else .ref v_818.toNatClampNeg) :: [.ref 0]) _ _
      refine dk_rr (fun r_818 => ?_)
      refine dk_callS (np := 2) (M' := m_L_say) (As := [.ref 0, .ref r_818]) (st := []) 824 dL_texts_821 rfl rfl km_L_say ks_L_say ml_EncoresLaw_95 (by decide) rfl rfl (Nat.le_of_ble_eq_true rfl) (dc_L_say N (d + 5) r_818 h_818) (fun v_821 h_821 e_821 => ?_)
      show DOk _ _ _ _ _ [] _ _
      refine dk_aload_n 825 0 dL_texts_824 rfl rfl rfl ?_
      refine dk_iconst 826 3 dL_texts_825 rfl rfl ?_
      refine dk_callXV (np := 1) (M' := m_X11_text) (As := [.int 3]) (st := []) 829 dL_texts_826 rfl rfl km_X11_text ki_X11_text kv_X11_text ml_EncoresLaw_99 (by decide) rfl rfl rfl (fun k hk => by simp at hk) (Nat.le_of_ble_eq_true rfl) (c_X11_text N (d + 0) (3 : Int32) h_821.1) (fun _ h => by cases h; exact pr_int) (fun v_826 n_826 e_826 => ?_)
      generalize pat h_821 n_826 = hh_826
      refine dk_gs (fun h_826 _ => ?_)
      show DOk _ _ _ _ _ (.int v_826 :: []) _ _
      refine dk_iload_n 830 3 dL_texts_829 rfl rfl rfl ?_
      refine dk_icmp_ne 837 833 dL_texts_830 (by decide) rfl (fun _ => ?_) (fun _ => ?_)
      · refine dk_iconst 838 0 dL_texts_837 rfl rfl ?_
        exact dk_zretc dL_texts_838 rfl rfl
      · refine dk_iconst 834 1 dL_texts_833 rfl rfl ?_
        refine dk_goto 838 dL_texts_834 (by decide) ?_
        exact dk_zretc dL_texts_838 rfl rfl) N (0) h_674

set_option maxRecDepth 100000 in
set_option maxHeartbeats 4000000 in
theorem dj_L_texts_J467 (N d : Nat) (a1 : Nat) (a2 : Int32)   (t0_467 : Int32) (h : DS) : DOk SX (d + 10) m_L_texts 467 [some (.ref 0), some (.ref a1), some (.int a2), none, none, none, none, none, none, none, none] [.int t0_467] h (g_L_texts_J467 N a1 a2 t0_467 h) := by
  unfold g_L_texts_J467
  refine dk_istore_n 468 3 [some (.ref 0), some (.ref a1), some (.int a2), some (.int t0_467), none, none, none, none, none, none, none] dL_texts_467 rfl rfl (by decide) rfl ?_
  refine dk_new (ty := ty13) (ci := 13) 471 dL_texts_468 rfl rfl kl_EncoresLaw_43 in_java_lang_StringBuilder wi_java_lang_StringBuilder (by decide) rfl ty13_ok dv_13 (fun h_468 _ => ?_)
  refine dk_dup 472 dL_texts_471 rfl rfl ?_
  refine dk_callI (np := 0) (M' := m_J4_init_da8c8) (As := []) (st := [.ref h.2.1.length]) 475 dL_texts_472 rfl rfl km_J4_init_da8c8 ki_J4_init_da8c8 ml_EncoresLaw_45 (by decide) rfl rfl rfl rfl (Nat.le_of_ble_eq_true rfl) (dc_J4_init_da8c8 N (d + 7) h.2.1.length h_468) (fun v_472 h_472 e_472 => ?_)
  refine dk_astore 477 4 [some (.ref 0), some (.ref a1), some (.int a2), some (.int t0_467), some (.ref h.2.1.length), none, none, none, none, none, none] dL_texts_475 rfl (by decide) rfl ?_
  refine dk_aload_n 478 1 dL_texts_477 rfl rfl rfl ?_
  refine dk_iload_n 479 3 dL_texts_478 rfl rfl rfl ?_
  refine dk_newqI 482 dL_texts_479 rfl rfl kl_EncoresLaw_46 (fun h_479 _ => ?_)
  refine dk_putRN (o := (some h_472.2.1.length)) 485 dL_texts_482 rfl rfl FN_EncoresLaw_106 rfl pZ_12_19 (fun q => nr_a q) (fun q => ft_a q) (fun h_482 _ => ?_)
  refine dk_iconst 486 0 dL_texts_485 rfl rfl ?_
  refine dk_istore 488 7 [some (.ref 0), some (.ref a1), some (.int a2), some (.int t0_467), some (.ref h.2.1.length), none, none, some (.int 0), none, none, none] dL_texts_486 rfl (by decide) rfl ?_
  refine dk_less [some (.ref 0), some (.ref a1), some (.int a2), some (.int t0_467), some (.ref h.2.1.length), none, none, some (.int 0), none, none, none] (And.intro rfl (And.intro rfl (And.intro rfl (And.intro rfl (And.intro rfl (And.intro rfl (trivial))))))) ?_
  exact dl_L_texts_L488 (SX := SX) N d a1 a2 t0_467 h.2.1.length (fun hk612 => chk (isT hk612 13 h.2.1.length) <| bd3 (g_J4_toString_0e30d N h.2.1.length hk612) fun v_615 h_615 =>
chk (decide (v_615 ≠ -1)) <| bnd v_615.toNatClampNeg fun r_615 =>
bd3 (g_L_say N r_615 h_615) fun v_618 h_618 =>
chk (isT h_618 11 0) <| bdX (f_X11_text N (2 : Int32) h_618.1) h_618 fun v_623 hh_623 => bnd (gs (f_X12_text N (2 : Int32)) hh_623) fun h_623 =>
if v_623 = t0_467 then (bo (dI h_623 a1 12 7) fun a_633 =>
if (2 : Int32) ≤ a_633 then (bd3 (g_L_between N (a2 >>> ((6 : Int32) &&& 31)) (0 : Int32) (14 : Int32) h_623) fun v_651 h_651 =>
g_L_texts_J654 N a1 a2 v_651 h_651)
else (g_L_texts_J654 N a1 a2 (0 : Int32) h_623))
else (some ((0 : Int32), h_623))) (fun hk612 => by
      refine dk_aload_n 613 0 dL_texts_612 rfl rfl rfl ?_
      refine dk_aload 615 4 dL_texts_613 rfl rfl ?_
      refine dk_callV (np := 0) (M' := m_J4_toString_0e30d) (As := []) (st := [.ref 0]) 13 618 dL_texts_615 rfl rfl km_J4_toString_0e30d ki_J4_toString_0e30d kv_J4_toString_0e30d ml_EncoresLaw_81 (by decide) (by decide) rfl rfl rfl (Nat.le_of_ble_eq_true rfl) (dc_J4_toString_0e30d N (d + 4) h.2.1.length hk612) (fun v_615 h_615 e_615 => ?_)
      show DOk _ _ _ _ _ ((if v_615 = -1 then Value.null else .ref v_615.toNatClampNeg) :: [.ref 0]) _ _
      refine dk_rr (fun r_615 => ?_)
      refine dk_callS (np := 2) (M' := m_L_say) (As := [.ref 0, .ref r_615]) (st := []) 621 dL_texts_618 rfl rfl km_L_say ks_L_say ml_EncoresLaw_95 (by decide) rfl rfl (Nat.le_of_ble_eq_true rfl) (dc_L_say N (d + 5) r_615 h_615) (fun v_618 h_618 e_618 => ?_)
      show DOk _ _ _ _ _ [] _ _
      refine dk_aload_n 622 0 dL_texts_621 rfl rfl rfl ?_
      refine dk_iconst 623 2 dL_texts_622 rfl rfl ?_
      refine dk_callXV (np := 1) (M' := m_X11_text) (As := [.int 2]) (st := []) 626 dL_texts_623 rfl rfl km_X11_text ki_X11_text kv_X11_text ml_EncoresLaw_99 (by decide) rfl rfl rfl (fun k hk => by simp at hk) (Nat.le_of_ble_eq_true rfl) (c_X11_text N (d + 0) (2 : Int32) h_618.1) (fun _ h => by cases h; exact pr_int) (fun v_623 n_623 e_623 => ?_)
      generalize pat h_618 n_623 = hh_623
      refine dk_gs (fun h_623 _ => ?_)
      show DOk _ _ _ _ _ (.int v_623 :: []) _ _
      refine dk_iload_n 627 3 dL_texts_626 rfl rfl rfl ?_
      refine dk_icmp_eq 632 630 dL_texts_627 (by decide) rfl (fun _ => ?_) (fun _ => ?_)
      · refine dk_aload_n 633 1 dL_texts_632 rfl rfl rfl ?_
        refine dk_getIN 636 dL_texts_633 rfl rfl FN_EncoresLaw_62 (fun a_633 _ => ?_)
        refine dk_iconst 637 2 dL_texts_636 rfl rfl ?_
        refine dk_icmp_ge 644 640 dL_texts_637 (by decide) rfl (fun _ => ?_) (fun _ => ?_)
        · refine dk_iload_n 645 2 dL_texts_644 rfl rfl rfl ?_
          refine dk_bipush 647 6 dL_texts_645 rfl rfl ?_
          refine dk_ishr 648 dL_texts_647 rfl ?_
          refine dk_iconst 649 0 dL_texts_648 rfl rfl ?_
          refine dk_bipush 651 14 dL_texts_649 rfl rfl ?_
          refine dk_callS (np := 3) (M' := m_L_between) (As := [.int (a2 >>> ((6 : Int32) &&& 31)), .int 0, .int 14]) (st := []) 654 dL_texts_651 rfl rfl km_L_between ks_L_between ml_EncoresLaw_37 (by decide) rfl rfl (Nat.le_of_ble_eq_true rfl) (dc_L_between N (d + 9) (a2 >>> ((6 : Int32) &&& 31)) (0 : Int32) (14 : Int32) h_623) (fun v_651 h_651 e_651 => ?_)
          show DOk _ _ _ _ _ (.int v_651 :: []) _ _
          exact dk_less [some (.ref 0), some (.ref a1), some (.int a2), none, none, none, none, none, none, none, none] (And.intro rfl (And.intro rfl (And.intro rfl (trivial)))) (dj_L_texts_J654 (SX := SX) N d a1 a2 v_651 h_651)
        · refine dk_iconst 641 0 dL_texts_640 rfl rfl ?_
          refine dk_goto 654 dL_texts_641 (by decide) ?_
          exact dk_less [some (.ref 0), some (.ref a1), some (.int a2), none, none, none, none, none, none, none, none] (And.intro rfl (And.intro rfl (And.intro rfl (trivial)))) (dj_L_texts_J654 (SX := SX) N d a1 a2 (0 : Int32) h_623)
      · refine dk_iconst 631 0 dL_texts_630 rfl rfl ?_
        exact dk_zretc dL_texts_631 rfl rfl) N (0) h_482

set_option maxRecDepth 100000 in
set_option maxHeartbeats 4000000 in
theorem dg_L_texts (N d : Nat) (a1 : Nat) (a2 : Int32) (h : DS) : DOk SX (d + 10) m_L_texts 0 [some (.ref 0), some (.ref a1), some (.int a2), none, none, none, none, none, none, none, none] [] h (g_L_texts N a1 a2 h) := by
  unfold g_L_texts
  refine dk_iload_n 1 2 dL_texts_0 rfl rfl rfl ?_
  refine dk_iconst 2 3 dL_texts_1 rfl rfl ?_
  refine dk_ishr 3 dL_texts_2 rfl ?_
  refine dk_iconst 4 0 dL_texts_3 rfl rfl ?_
  refine dk_bipush 6 8 dL_texts_4 rfl rfl ?_
  refine dk_callS (np := 3) (M' := m_L_between) (As := [.int (a2 >>> ((3 : Int32) &&& 31)), .int 0, .int 8]) (st := []) 9 dL_texts_6 rfl rfl km_L_between ks_L_between ml_EncoresLaw_37 (by decide) rfl rfl (Nat.le_of_ble_eq_true rfl) (dc_L_between N (d + 9) (a2 >>> ((3 : Int32) &&& 31)) (0 : Int32) (8 : Int32) h) (fun v_6 h_6 e_6 => ?_)
  show DOk _ _ _ _ _ (.int v_6 :: []) _ _
  refine dk_istore_n 10 3 [some (.ref 0), some (.ref a1), some (.int a2), some (.int v_6), none, none, none, none, none, none, none] dL_texts_9 rfl rfl (by decide) rfl ?_
  refine dk_new (ty := ty13) (ci := 13) 13 dL_texts_10 rfl rfl kl_EncoresLaw_43 in_java_lang_StringBuilder wi_java_lang_StringBuilder (by decide) rfl ty13_ok dv_13 (fun h_10 _ => ?_)
  refine dk_dup 14 dL_texts_13 rfl rfl ?_
  refine dk_callI (np := 0) (M' := m_J4_init_da8c8) (As := []) (st := [.ref h_6.2.1.length]) 17 dL_texts_14 rfl rfl km_J4_init_da8c8 ki_J4_init_da8c8 ml_EncoresLaw_45 (by decide) rfl rfl rfl rfl (Nat.le_of_ble_eq_true rfl) (dc_J4_init_da8c8 N (d + 7) h_6.2.1.length h_10) (fun v_14 h_14 e_14 => ?_)
  refine dk_astore 19 4 [some (.ref 0), some (.ref a1), some (.int a2), some (.int v_6), some (.ref h_6.2.1.length), none, none, none, none, none, none] dL_texts_17 rfl (by decide) rfl ?_
  refine dk_bipush 21 16 dL_texts_19 rfl rfl ?_
  refine dk_newqI 24 dL_texts_21 rfl rfl kl_EncoresLaw_46 (fun h_21 _ => ?_)
  refine dk_astore 26 5 [some (.ref 0), some (.ref a1), some (.int a2), some (.int v_6), some (.ref h_6.2.1.length), some (.ref h_14.2.1.length), none, none, none, none, none] dL_texts_24 rfl (by decide) rfl ?_
  refine dk_iconst 27 0 dL_texts_26 rfl rfl ?_
  refine dk_istore 29 6 [some (.ref 0), some (.ref a1), some (.int a2), some (.int v_6), some (.ref h_6.2.1.length), some (.ref h_14.2.1.length), some (.int 0), none, none, none, none] dL_texts_27 rfl (by decide) rfl ?_
  refine dk_aload_n 30 1 dL_texts_29 rfl rfl rfl ?_
  refine dk_bipush 32 9 dL_texts_30 rfl rfl ?_
  refine dk_putIN 35 dL_texts_32 rfl rfl FN_EncoresLaw_48 rfl pZ_12_10 rfl rfl (fun h_32 _ => ?_)
  refine dk_aload_n 36 1 dL_texts_35 rfl rfl rfl ?_
  refine dk_sipush 39 300 dL_texts_36 rfl rfl ?_
  refine dk_putIN 42 dL_texts_39 rfl rfl FN_EncoresLaw_54 rfl pZ_12_11 rfl rfl (fun h_39 _ => ?_)
  refine dk_aload_n 43 1 dL_texts_42 rfl rfl rfl ?_
  refine dk_iconst 44 0 dL_texts_43 rfl rfl ?_
  refine dk_putIN 47 dL_texts_44 rfl rfl FN_EncoresLaw_56 rfl pZ_12_12 rfl rfl (fun h_44 _ => ?_)
  refine dk_aload_n 48 1 dL_texts_47 rfl rfl rfl ?_
  refine dk_iload_n 49 3 dL_texts_48 rfl rfl rfl ?_
  refine dk_putIN 52 dL_texts_49 rfl rfl FN_EncoresLaw_59 rfl pZ_12_13 rfl rfl (fun h_49 _ => ?_)
  refine dk_iconst 53 0 dL_texts_52 rfl rfl ?_
  refine dk_istore 55 7 [some (.ref 0), some (.ref a1), some (.int a2), some (.int v_6), some (.ref h_6.2.1.length), some (.ref h_14.2.1.length), some (.int 0), some (.int 0), none, none, none] dL_texts_53 rfl (by decide) rfl ?_
  refine dk_less [some (.ref 0), some (.ref a1), some (.int a2), some (.int v_6), some (.ref h_6.2.1.length), some (.ref h_14.2.1.length), some (.int 0), some (.int 0), none, none, none] (And.intro rfl (And.intro rfl (And.intro rfl (And.intro rfl (And.intro rfl (And.intro rfl (And.intro rfl (And.intro rfl (trivial))))))))) ?_
  exact dl_L_texts_L55 (SX := SX) N d a1 a2 v_6 h_6.2.1.length h_14.2.1.length (fun k6_390 hk390 => bo (nQ hk390 103 k6_390) fun h_393 =>
bo (wR h_393 a1 12 18 (some hk390.2.1.length)) fun h_396 =>
jt (fun Y a hz => g_L_texts_L402 N a1 a2 v_6 h_6.2.1.length h_14.2.1.length k6_390 (fun hk427 => chk (isT hk427 13 h_6.2.1.length) <| bd3 (g_J4_toString_0e30d N h_6.2.1.length hk427) fun v_430 h_430 =>
chk (decide (v_430 ≠ -1)) <| bnd v_430.toNatClampNeg fun r_430 =>
bd3 (g_L_say N r_430 h_430) fun v_433 h_433 =>
chk (isT h_433 11 0) <| bdX (f_X11_text N (1 : Int32) h_433.1) h_433 fun v_438 hh_438 => bnd (gs (f_X12_text N (1 : Int32)) hh_438) fun h_438 =>
if v_438 = v_6 then (bo (dI h_438 a1 12 8) fun a_448 =>
if a_448 = 0 then (g_L_texts_J467 N a1 a2 (0 : Int32) h_438)
else (bd3 (g_L_between N (a2 >>> ((5 : Int32) &&& 31)) (0 : Int32) (7 : Int32) h_438) fun v_464 h_464 =>
g_L_texts_J467 N a1 a2 v_464 h_464))
else (some ((0 : Int32), h_438))) Y a hz) N (0) h_396) (fun k6_390 hk390 => by
      refine dk_aload_n 391 1 dL_texts_390 rfl rfl rfl ?_
      refine dk_iload 393 6 dL_texts_391 rfl rfl ?_
      refine dk_newqI 396 dL_texts_393 rfl rfl kl_EncoresLaw_46 (fun h_393 _ => ?_)
      refine dk_putRN (o := (some hk390.2.1.length)) 399 dL_texts_396 rfl rfl FN_EncoresLaw_91 rfl pZ_12_18 (fun q => nr_a q) (fun q => ft_a q) (fun h_396 _ => ?_)
      refine dk_iconst 400 0 dL_texts_399 rfl rfl ?_
      refine dk_istore 402 7 [some (.ref 0), some (.ref a1), some (.int a2), some (.int v_6), some (.ref h_6.2.1.length), some (.ref h_14.2.1.length), some (.int k6_390), some (.int 0), none, none, none] dL_texts_400 rfl (by decide) rfl ?_
      refine dk_less [some (.ref 0), some (.ref a1), some (.int a2), some (.int v_6), some (.ref h_6.2.1.length), some (.ref h_14.2.1.length), some (.int k6_390), some (.int 0), none, none, none] (And.intro rfl (And.intro rfl (And.intro rfl (And.intro rfl (And.intro rfl (And.intro rfl (And.intro rfl (And.intro rfl (trivial))))))))) ?_
      exact dl_L_texts_L402 (SX := SX) N d a1 a2 v_6 h_6.2.1.length h_14.2.1.length k6_390 (fun hk427 => chk (isT hk427 13 h_6.2.1.length) <| bd3 (g_J4_toString_0e30d N h_6.2.1.length hk427) fun v_430 h_430 =>
chk (decide (v_430 ≠ -1)) <| bnd v_430.toNatClampNeg fun r_430 =>
bd3 (g_L_say N r_430 h_430) fun v_433 h_433 =>
chk (isT h_433 11 0) <| bdX (f_X11_text N (1 : Int32) h_433.1) h_433 fun v_438 hh_438 => bnd (gs (f_X12_text N (1 : Int32)) hh_438) fun h_438 =>
if v_438 = v_6 then (bo (dI h_438 a1 12 8) fun a_448 =>
if a_448 = 0 then (g_L_texts_J467 N a1 a2 (0 : Int32) h_438)
else (bd3 (g_L_between N (a2 >>> ((5 : Int32) &&& 31)) (0 : Int32) (7 : Int32) h_438) fun v_464 h_464 =>
g_L_texts_J467 N a1 a2 v_464 h_464))
else (some ((0 : Int32), h_438))) (fun hk427 => by
          refine dk_aload_n 428 0 dL_texts_427 rfl rfl rfl ?_
          refine dk_aload 430 4 dL_texts_428 rfl rfl ?_
          refine dk_callV (np := 0) (M' := m_J4_toString_0e30d) (As := []) (st := [.ref 0]) 13 433 dL_texts_430 rfl rfl km_J4_toString_0e30d ki_J4_toString_0e30d kv_J4_toString_0e30d ml_EncoresLaw_81 (by decide) (by decide) rfl rfl rfl (Nat.le_of_ble_eq_true rfl) (dc_J4_toString_0e30d N (d + 4) h_6.2.1.length hk427) (fun v_430 h_430 e_430 => ?_)
          show DOk _ _ _ _ _ ((if v_430 = -1 then Value.null else .ref v_430.toNatClampNeg) :: [.ref 0]) _ _
          refine dk_rr (fun r_430 => ?_)
          refine dk_callS (np := 2) (M' := m_L_say) (As := [.ref 0, .ref r_430]) (st := []) 436 dL_texts_433 rfl rfl km_L_say ks_L_say ml_EncoresLaw_95 (by decide) rfl rfl (Nat.le_of_ble_eq_true rfl) (dc_L_say N (d + 5) r_430 h_430) (fun v_433 h_433 e_433 => ?_)
          show DOk _ _ _ _ _ [] _ _
          refine dk_aload_n 437 0 dL_texts_436 rfl rfl rfl ?_
          refine dk_iconst 438 1 dL_texts_437 rfl rfl ?_
          refine dk_callXV (np := 1) (M' := m_X11_text) (As := [.int 1]) (st := []) 441 dL_texts_438 rfl rfl km_X11_text ki_X11_text kv_X11_text ml_EncoresLaw_99 (by decide) rfl rfl rfl (fun k hk => by simp at hk) (Nat.le_of_ble_eq_true rfl) (c_X11_text N (d + 0) (1 : Int32) h_433.1) (fun _ h => by cases h; exact pr_int) (fun v_438 n_438 e_438 => ?_)
          generalize pat h_433 n_438 = hh_438
          refine dk_gs (fun h_438 _ => ?_)
          show DOk _ _ _ _ _ (.int v_438 :: []) _ _
          refine dk_iload_n 442 3 dL_texts_441 rfl rfl rfl ?_
          refine dk_icmp_eq 447 445 dL_texts_442 (by decide) rfl (fun _ => ?_) (fun _ => ?_)
          · refine dk_aload_n 448 1 dL_texts_447 rfl rfl rfl ?_
            refine dk_getIN 451 dL_texts_448 rfl rfl FN_EncoresLaw_103 (fun a_448 _ => ?_)
            refine dk_if_ne 458 454 dL_texts_451 (by decide) rfl (fun _ => ?_) (fun _ => ?_)
            · refine dk_iload_n 459 2 dL_texts_458 rfl rfl rfl ?_
              refine dk_iconst 460 5 dL_texts_459 rfl rfl ?_
              refine dk_ishr 461 dL_texts_460 rfl ?_
              refine dk_iconst 462 0 dL_texts_461 rfl rfl ?_
              refine dk_bipush 464 7 dL_texts_462 rfl rfl ?_
              refine dk_callS (np := 3) (M' := m_L_between) (As := [.int (a2 >>> ((5 : Int32) &&& 31)), .int 0, .int 7]) (st := []) 467 dL_texts_464 rfl rfl km_L_between ks_L_between ml_EncoresLaw_37 (by decide) rfl rfl (Nat.le_of_ble_eq_true rfl) (dc_L_between N (d + 9) (a2 >>> ((5 : Int32) &&& 31)) (0 : Int32) (7 : Int32) h_438) (fun v_464 h_464 e_464 => ?_)
              show DOk _ _ _ _ _ (.int v_464 :: []) _ _
              exact dk_less [some (.ref 0), some (.ref a1), some (.int a2), none, none, none, none, none, none, none, none] (And.intro rfl (And.intro rfl (And.intro rfl (trivial)))) (dj_L_texts_J467 (SX := SX) N d a1 a2 v_464 h_464)
            · refine dk_iconst 455 0 dL_texts_454 rfl rfl ?_
              refine dk_goto 467 dL_texts_455 (by decide) ?_
              exact dk_less [some (.ref 0), some (.ref a1), some (.int a2), none, none, none, none, none, none, none, none] (And.intro rfl (And.intro rfl (And.intro rfl (trivial)))) (dj_L_texts_J467 (SX := SX) N d a1 a2 (0 : Int32) h_438)
          · refine dk_iconst 446 0 dL_texts_445 rfl rfl ?_
            exact dk_zretc dL_texts_446 rfl rfl) N (0) h_396) N (0, 0) h_49

theorem dc_L_texts (N d : Nat) (a1 : Nat) (a2 : Int32) (h : DS) : DCM SX (d + 10) m_L_texts [.ref 0, .ref a1, .int a2] h (g_L_texts N a1 a2 h) :=
  DCM.ofDOk km_L_texts (by simp [Value.category]) (Nat.le_of_ble_eq_true rfl) (dg_L_texts N d a1 a2 h)

