/-! the model of whole, as functions alone -/
def f_X12_isIn (N : Nat) (a0 : Int32) (a1 : Int32) (a2 : Int32) (m : Mem) : Ans :=
if a0 < a1 then (some (0, m))
else (if a2 < a0 then (some (0, m))
else (some (1, m)))

def f_X12_lesser (N : Nat) (a0 : Int32) (a1 : Int32) (m : Mem) : Ans :=
if a1 ≤ a0 then (some (a1, m))
else (some (a0, m))

def f_X12_greater (N : Nat) (a0 : Int32) (a1 : Int32) (m : Mem) : Ans :=
if a0 ≤ a1 then (some (a1, m))
else (some (a0, m))

def f_X12_isHearer (N : Nat) (a1 : Int32) (m : Mem) : Ans :=
bd (f_X12_isIn N a1 0 ((m 124 37) - (1 : Int32)) m) fun r_11 m_11 =>
chk (isB r_11) (some (r_11, m_11))

def f_X12_isDeed (N : Nat) (a1 : Int32) (m : Mem) : Ans :=
bd (f_X12_isIn N a1 0 ((m 124 38) - (1 : Int32)) m) fun r_11 m_11 =>
chk (isB r_11) (some (r_11, m_11))

def f_X12_isThere (N : Nat) (a1 : Int32) (m : Mem) : Ans :=
if (((m 124 7) >>> (a1 &&& 31)) &&& (1 : Int32)) = (1 : Int32) then (some (1, m))
else (some (0, m))

def f_X12_isGloved (N : Nat) (a1 : Int32) (m : Mem) : Ans :=
if (((m 124 8) >>> (a1 &&& 31)) &&& (1 : Int32)) = (1 : Int32) then (some (1, m))
else (some (0, m))

def f_X12_count_L4 (N : Nat) (a0 : Int32)   (X : Int32 → Int32 → Mem → Ans) (s1_4 : Int32) (s2_4 : Int32) (m : Mem) : Ans :=
if (12 : Int32) ≤ s2_4 then (some (s1_4, m))
else (bnd (s1_4 + ((a0 >>> (s2_4 &&& 31)) &&& (1 : Int32))) fun a1_17 =>
X a1_17 (s2_4 + 1) m)

def f_X12_count (N : Nat) (a0 : Int32) (m : Mem) : Ans :=
it2 (f_X12_count_L4 N a0 ) N 0 0 m

def f_X12_forgets (N : Nat)  (m : Mem) : Ans :=
bnd (mset m 123 4 0) fun m_2 =>
some (0, m_2)

def f_X12_state (N : Nat) (a1 : Int32) (m : Mem) : Ans :=
bnd (m 124 5) fun a2_6 =>
bnd (mset m 124 5 a1) fun m_13 =>
bd (f_X12_forgets N m_13) fun _ m_15 =>
some (a2_6, m_15)

def f_X12_draw (N : Nat) (a1 : Int32) (m : Mem) : Ans :=
bnd (mset m 124 5 (((1664525 : Int32) * (m 124 5)) + (1013904223 : Int32))) fun m_17 =>
chk (decide (a1 ≠ 0)) <|
some ((irm (ushr (m_17 124 5) (8 : Int32)) a1), m_17)

def f_X12_hearer (N : Nat) (a1 : Int32) (a2 : Int32) (a3 : Int32) (m : Mem) : Ans :=
bd (f_X12_isIn N a1 0 9 m) fun r_4 m_4 =>
if r_4 = 0 then (some ((-1), m_4))
else (bd (f_X12_isIn N a2 0 9 m_4) fun r_14 m_14 =>
if r_14 = 0 then (some ((-1), m_14))
else (bd (f_X12_isIn N a3 0 9 m_14) fun r_24 m_24 =>
if r_24 = 0 then (some ((-1), m_24))
else (if (m_24 124 37) = (12 : Int32) then (some ((-1), m_24))
else (bnd (m_24 124 37) fun a4_51 =>
chk (inb ((45 : Int32) + a4_51) 1707) <|
bnd (mset m_24 124 ((45 : Int32) + a4_51).toNatClampNeg a1) fun m_63 =>
chk (inb ((57 : Int32) + a4_51) 1707) <|
bnd (mset m_63 124 ((57 : Int32) + a4_51).toNatClampNeg a2) fun m_74 =>
chk (inb ((69 : Int32) + a4_51) 1707) <|
bnd (mset m_74 124 ((69 : Int32) + a4_51).toNatClampNeg a3) fun m_85 =>
chk (inb ((9 : Int32) + a4_51) 1707) <|
bnd (mset m_85 124 ((9 : Int32) + a4_51).toNatClampNeg 0) fun m_96 =>
bnd (mset m_96 124 7 ((m_96 124 7) ||| ((1 : Int32) <<< (a4_51 &&& 31)))) fun m_110 =>
bnd (mset m_110 124 8 ((m_110 124 8) &&& (((1 : Int32) <<< (a4_51 &&& 31)) ^^^ (-1 : Int32)))) fun m_126 =>
bnd (mset m_126 124 37 ((m_126 124 37) + (1 : Int32))) fun m_137 =>
bd (f_X12_forgets N m_137) fun _ m_139 =>
some (a4_51, m_139)))))

def f_X12_deed (N : Nat) (a1 : Int32) (a2 : Int32) (a3 : Int32) (m : Mem) : Ans :=
bd (f_X12_isIn N a1 0 9 m) fun r_4 m_4 =>
if r_4 = 0 then (some ((-1), m_4))
else (bd (f_X12_isIn N a2 1 60 m_4) fun r_14 m_14 =>
if r_14 = 0 then (some ((-1), m_14))
else (bd (f_X12_isIn N a3 0 99 m_14) fun r_24 m_24 =>
if r_24 = 0 then (some ((-1), m_24))
else (if (m_24 124 38) = (8 : Int32) then (some ((-1), m_24))
else (bnd (m_24 124 38) fun a4_51 =>
chk (inb ((81 : Int32) + a4_51) 1707) <|
bnd (mset m_24 124 ((81 : Int32) + a4_51).toNatClampNeg a1) fun m_63 =>
chk (inb ((89 : Int32) + a4_51) 1707) <|
bnd (mset m_63 124 ((89 : Int32) + a4_51).toNatClampNeg a2) fun m_74 =>
chk (inb ((97 : Int32) + a4_51) 1707) <|
bnd (mset m_74 124 ((97 : Int32) + a4_51).toNatClampNeg a3) fun m_85 =>
chk (inb ((21 : Int32) + a4_51) 1707) <|
bnd (mset m_85 124 ((21 : Int32) + a4_51).toNatClampNeg 0) fun m_96 =>
chk (inb ((29 : Int32) + a4_51) 1707) <|
bnd (mset m_96 124 ((29 : Int32) + a4_51).toNatClampNeg 0) fun m_107 =>
bnd (mset m_107 124 38 ((m_107 124 38) + (1 : Int32))) fun m_118 =>
bd (f_X12_forgets N m_118) fun _ m_120 =>
some (a4_51, m_120)))))

def f_X12_canSet (N : Nat) (a1 : Int32) (a2 : Int32) (a3 : Int32) (m : Mem) : Ans :=
if a1 = 0 then (bd (f_X12_isIn N a3 0 1000 m) fun r_9 m_9 =>
chk (isB r_9) (some (r_9, m_9)))
else (bd (f_X12_isIn N a1 1 3 m) fun r_16 m_16 =>
if r_16 = 0 then (bd (f_X12_isDeed N a2 m_16) fun r_48 m_48 =>
if r_48 = 0 then (some (0, m_48))
else (if a1 = (4 : Int32) then (bd (f_X12_isIn N a3 0 9 m_48) fun r_63 m_63 =>
if r_63 = 0 then (some (0, m_63))
else (some (1, m_63)))
else (if a1 = (5 : Int32) then (bd (f_X12_isIn N a3 0 99 m_48) fun r_81 m_81 =>
if r_81 = 0 then (some (0, m_81))
else (some (1, m_81)))
else (some (0, m_48)))))
else (bd (f_X12_isHearer N a2 m_16) fun r_24 m_24 =>
if r_24 = 0 then (some (0, m_24))
else (bd (f_X12_isIn N a3 0 9 m_24) fun r_34 m_34 =>
if r_34 = 0 then (some (0, m_34))
else (some (1, m_34)))))

def f_X12_set (N : Nat) (a1 : Int32) (a2 : Int32) (a3 : Int32) (m : Mem) : Ans :=
bd (f_X12_canSet N a1 a2 a3 m) fun r_4 m_4 =>
if r_4 = 0 then (some (0, m_4))
else (if a1 = 0 then (bnd (mset m_4 124 39 a3) fun m_55 =>
bd (f_X12_forgets N m_55) fun _ m_103 =>
some (1, m_103))
else (if a1 = 4 then (chk (inb ((81 : Int32) + a2) 1707) <|
bnd (mset m_4 124 ((81 : Int32) + a2).toNatClampNeg a3) fun m_68 =>
bd (f_X12_forgets N m_68) fun _ m_103 =>
some (1, m_103))
else (if a1 = 5 then (chk (inb ((21 : Int32) + a2) 1707) <|
bnd (mset m_4 124 ((21 : Int32) + a2).toNatClampNeg a3) fun m_81 =>
bd (f_X12_forgets N m_81) fun _ m_103 =>
some (1, m_103))
else (chk (inb (((45 : Int32) + ((12 : Int32) * (a1 - (1 : Int32)))) + a2) 1707) <|
bnd (mset m_4 124 (((45 : Int32) + ((12 : Int32) * (a1 - (1 : Int32)))) + a2).toNatClampNeg a3) fun m_101 =>
bd (f_X12_forgets N m_101) fun _ m_103 =>
some (1, m_103)))))

def f_X12_feed_J71 (N : Nat) (a1 : Int32) (a2 : Int32) (a3 : Int32) (a4 : Int32) (a5 : Int32)   (X : Int32 → Mem → Ans) (s6_71 : Int32) (t0_71 : Int32) (m : Mem) : Ans :=
chk (inb (m 123 16) 400) <|
bnd (mset m 131 (m 123 16).toNatClampNeg ((t0_71 >>> (((24 : Int32) - ((8 : Int32) * (irm s6_71 (4 : Int32)))) &&& 31)) &&& (255 : Int32))) fun m_98 =>
bnd (mset m_98 123 16 ((m_98 123 16) + (1 : Int32))) fun m_106 =>
X (s6_71 + 1) m_106

def f_X12_feed_L18 (N : Nat) (a1 : Int32) (a2 : Int32) (a3 : Int32) (a4 : Int32) (a5 : Int32)   (X : Int32 → Mem → Ans) (s6_18 : Int32) (m : Mem) : Ans :=
if (20 : Int32) ≤ s6_18 then (some (m 123 16, m))
else (if (4 : Int32) ≤ s6_18 then (if (8 : Int32) ≤ s6_18 then (if (12 : Int32) ≤ s6_18 then (if (16 : Int32) ≤ s6_18 then (f_X12_feed_J71 N a1 a2 a3 a4 a5  X s6_18 a5 m)
else (f_X12_feed_J71 N a1 a2 a3 a4 a5  X s6_18 a4 m))
else (f_X12_feed_J71 N a1 a2 a3 a4 a5  X s6_18 a3 m))
else (f_X12_feed_J71 N a1 a2 a3 a4 a5  X s6_18 a2 m))
else (f_X12_feed_J71 N a1 a2 a3 a4 a5  X s6_18 a1 m))

def f_X12_feed (N : Nat) (a1 : Int32) (a2 : Int32) (a3 : Int32) (a4 : Int32) (a5 : Int32) (m : Mem) : Ans :=
if ((m 123 16) + (20 : Int32)) ≤ (400 : Int32) then (it1 (f_X12_feed_L18 N a1 a2 a3 a4 a5 ) N 0 m)
else (some ((-1), m))

def f_X12_end (N : Nat) (a1 : Int32) (m : Mem) : Ans :=
bd (f_X12_isIn N a1 0 (m 123 16) m) fun r_6 m_6 =>
if r_6 = 0 then (some (0, m_6))
else (bnd (mset m_6 123 16 a1) fun m_16 =>
some (1, m_16))

def f_X12_see (N : Nat) (a1 : Int32) (m : Mem) : Ans :=
if (m 123 16) ≤ a1 then (some ((-1), m))
else (chk (inb a1 400) <|
some (m 131 a1.toNatClampNeg, m))

def f_X12_isLetter (N : Nat) (a0 : Int32) (m : Mem) : Ans :=
bd (f_X12_isIn N a0 97 122 m) fun r_5 m_5 =>
if r_5 = 0 then (bd (f_X12_isIn N a0 65 90 m_5) fun r_16 m_16 =>
if r_16 = 0 then (some (0, m_16))
else (some (1, m_16)))
else (some (1, m_5))

def f_X12_isDigit (N : Nat) (a0 : Int32) (m : Mem) : Ans :=
bd (f_X12_isIn N a0 48 57 m) fun r_5 m_5 =>
chk (isB r_5) (some (r_5, m_5))

def f_X12_is_L24 (N : Nat) (a1 : Nat)   (X : Int32 → Int32 → Mem → Ans) (s2_24 : Int32) (s3_24 : Int32) (m : Mem) : Ans :=
bd (f_J0_length_8abf5 N a1 m) fun r_26 m_26 =>
if r_26 ≤ s3_24 then (chk (isB s2_24) (some (s2_24, m_26)))
else (if s2_24 = 0 then (chk (isB s2_24) (some (s2_24, m_26)))
else (chk (inb ((m_26 123 19) + s3_24) 400) <|
bd (f_J0_charAt_5068e N a1 s3_24 m_26) fun r_49 m_49 =>
if (m_26 131 ((m_26 123 19) + s3_24).toNatClampNeg) = r_49 then (X 1 (s3_24 + 1) m_49)
else (X 0 (s3_24 + 1) m_49)))

def f_X12_is_J21 (N : Nat) (a1 : Nat)   (t0_21 : Int32) (m : Mem) : Ans :=
it2 (f_X12_is_L24 N a1 ) N t0_21 0 m

def f_X12_is (N : Nat) (a1 : Nat) (m : Mem) : Ans :=
bd (f_J0_length_8abf5 N a1 m) fun r_10 m_10 =>
if ((m 123 17) - (m 123 19)) = r_10 then (f_X12_is_J21 N a1 1 m_10)
else (f_X12_is_J21 N a1 0 m_10)

def f_X12_asked (N : Nat)  (m : Mem) : Ans :=
bd (f_X12_is N 1000008 m) fun r_3 m_3 =>
if r_3 = 0 then (bd (f_X12_is N 1000009 m_3) fun r_15 m_15 =>
if r_15 = 0 then (bd (f_X12_is N 1000010 m_15) fun r_27 m_27 =>
if r_27 = 0 then (bd (f_X12_is N 1000011 m_27) fun r_39 m_39 =>
if r_39 = 0 then (bd (f_X12_is N 1000012 m_39) fun r_51 m_51 =>
if r_51 = 0 then (bd (f_X12_is N 1000013 m_51) fun r_63 m_63 =>
if r_63 = 0 then (bd (f_X12_is N 1000014 m_63) fun r_75 m_75 =>
if r_75 = 0 then (bd (f_X12_is N 1000015 m_75) fun r_87 m_87 =>
if r_87 = 0 then (bd (f_X12_is N 1000016 m_87) fun r_99 m_99 =>
if r_99 = 0 then (bd (f_X12_is N 1000017 m_99) fun r_111 m_111 =>
if r_111 = 0 then (some (1, m_111))
else (some (50, m_111)))
else (some (49, m_99)))
else (some (48, m_87)))
else (some (47, m_75)))
else (some (46, m_63)))
else (some (45, m_51)))
else (some (44, m_39)))
else (some (43, m_27)))
else (some (42, m_15)))
else (some (41, m_3))

def f_X12_lawWord (N : Nat)  (m : Mem) : Ans :=
bd (f_X12_is N 1000001 m) fun r_3 m_3 =>
if r_3 = 0 then (bd (f_X12_is N 1000002 m_3) fun r_14 m_14 =>
if r_14 = 0 then (bd (f_X12_is N 1000003 m_14) fun r_25 m_25 =>
if r_25 = 0 then (bd (f_X12_is N 1000004 m_25) fun r_36 m_36 =>
if r_36 = 0 then (bd (f_X12_is N 1000005 m_36) fun r_48 m_48 =>
if r_48 = 0 then (bd (f_X12_is N 1000006 m_48) fun r_60 m_60 =>
if r_60 = 0 then (bd (f_X12_is N 1000007 m_60) fun r_72 m_72 =>
if r_72 = 0 then (bd (f_X12_asked N m_72) fun r_84 m_84 =>
some (r_84, m_84))
else (some (22, m_72)))
else (some (21, m_60)))
else (some (20, m_48)))
else (some (6, m_36)))
else (some (5, m_25)))
else (some (4, m_14)))
else (some (3, m_3))

def f_X12_statuteWord (N : Nat)  (m : Mem) : Ans :=
bd (f_X12_is N 1000009 m) fun r_3 m_3 =>
if r_3 = 0 then (bd (f_X12_is N 1000018 m_3) fun r_15 m_15 =>
if r_15 = 0 then (bd (f_X12_is N 1000019 m_15) fun r_27 m_27 =>
if r_27 = 0 then (bd (f_X12_is N 1000020 m_27) fun r_39 m_39 =>
if r_39 = 0 then (bd (f_X12_is N 1000021 m_39) fun r_51 m_51 =>
if r_51 = 0 then (some (1, m_51))
else (some (11, m_51)))
else (some (10, m_39)))
else (some (9, m_27)))
else (some (8, m_15)))
else (some (7, m_3))

def f_X12_word (N : Nat)  (m : Mem) : Ans :=
swt (Int32.toInt (m 123 12) - (0)) [(bd (f_X12_lawWord N m) fun r_33 m_33 =>
some (r_33, m_33)),
(bd (f_X12_statuteWord N m) fun r_38 m_38 =>
some (r_38, m_38)),
(bd (f_X12_is N 1000022 m) fun r_45 m_45 =>
if r_45 = 0 then (bd (f_X12_is N 1000023 m_45) fun r_59 m_59 =>
if r_59 = 0 then (some (1, m_59))
else (some (13, m_59)))
else (some (12, m_45)))] (bd (f_X12_is N 1000008 m) fun r_75 m_75 =>
if r_75 = 0 then (bd (f_X12_is N 1000016 m_75) fun r_89 m_89 =>
if r_89 = 0 then (some (1, m_89))
else (some (15, m_89)))
else (some (14, m_75)))

def f_X12_next0_L0 (N : Nat)   (K39 : Mem → Ans) (X : Mem → Ans)  (m : Mem) : Ans :=
bd (f_X12_see N (m 123 17) m) fun r_5 m_5 =>
if r_5 = (32 : Int32) then (bnd (mset m_5 123 17 ((m_5 123 17) + (1 : Int32))) fun m_33 =>
X m_33)
else (bd (f_X12_see N (m_5 123 17) m_5) fun r_18 m_18 =>
if r_18 = (10 : Int32) then (bnd (mset m_18 123 17 ((m_18 123 17) + (1 : Int32))) fun m_33 =>
X m_33)
else (K39 m_18))

def f_X12_next0_J284 (N : Nat)    (s1_284 : Int32) (m : Mem) : Ans :=
if (1 : Int32) = 0 then (bnd (mset m 123 18 1) fun m_303 =>
some (0, m_303))
else (bnd (mset m 123 18 ((100 : Int32) + s1_284)) fun m_303 =>
some (0, m_303))

def f_X12_next0_L126 (N : Nat)   (K189 : Mem → Ans) (X : Mem → Ans)  (m : Mem) : Ans :=
bd (f_X12_see N (m 123 17) m) fun r_131 m_131 =>
bd (f_X12_isDigit N r_131 m_131) fun r_134 m_134 =>
if r_134 = 0 then (K189 m_134)
else (if ((m_134 123 19) + (4 : Int32)) ≤ (m_134 123 17) then (bnd (mset m_134 123 17 ((m_134 123 17) + (1 : Int32))) fun m_183 =>
X m_183)
else (bd (f_X12_see N (m_134 123 17) m_134) fun r_166 m_166 =>
bnd (mset m_166 123 20 ((((10 : Int32) * (m_134 123 20)) + r_166) - (48 : Int32))) fun m_173 =>
bnd (mset m_173 123 17 ((m_173 123 17) + (1 : Int32))) fun m_183 =>
X m_183))

def f_X12_next0_L76 (N : Nat)    (X : Mem → Ans)  (m : Mem) : Ans :=
bd (f_X12_see N (m 123 17) m) fun r_81 m_81 =>
bd (f_X12_isLetter N r_81 m_81) fun r_84 m_84 =>
if r_84 = 0 then (bd (f_X12_word N m_84) fun r_105 m_105 =>
bnd (mset m_105 123 18 r_105) fun m_108 =>
some (0, m_108))
else (bnd (mset m_84 123 17 ((m_84 123 17) + (1 : Int32))) fun m_97 =>
X m_97)

def f_X12_next0 (N : Nat)  (m : Mem) : Ans :=
it0 (f_X12_next0_L0 N (fun mk39 => bnd (mset mk39 123 19 (mk39 123 17)) fun m_44 =>
bd (f_X12_see N (m_44 123 17) m_44) fun r_52 m_52 =>
if r_52 = (-1 : Int32) then (bnd (mset m_52 123 18 0) fun m_63 =>
some (0, m_63))
else (bd (f_X12_isLetter N r_52 m_52) fun r_70 m_70 =>
if r_70 = 0 then (bd (f_X12_isDigit N r_52 m_70) fun r_115 m_115 =>
if r_115 = 0 then (bnd (mset m_115 123 17 ((m_115 123 17) + (1 : Int32))) fun m_221 =>
if r_52 = (59 : Int32) then (f_X12_next0_J284 N r_52 m_221)
else (if r_52 = (43 : Int32) then (f_X12_next0_J284 N r_52 m_221)
else (if r_52 = (45 : Int32) then (f_X12_next0_J284 N r_52 m_221)
else (if r_52 = (42 : Int32) then (f_X12_next0_J284 N r_52 m_221)
else (if r_52 = (47 : Int32) then (f_X12_next0_J284 N r_52 m_221)
else (if r_52 = (40 : Int32) then (f_X12_next0_J284 N r_52 m_221)
else (if r_52 = (41 : Int32) then (f_X12_next0_J284 N r_52 m_221)
else (if r_52 = (60 : Int32) then (f_X12_next0_J284 N r_52 m_221)
else (if r_52 = (61 : Int32) then (f_X12_next0_J284 N r_52 m_221)
else (if r_52 = (62 : Int32) then (f_X12_next0_J284 N r_52 m_221)
else (if (0 : Int32) = 0 then (bnd (mset m_221 123 18 1) fun m_303 =>
some (0, m_303))
else (bnd (mset m_221 123 18 ((100 : Int32) + r_52)) fun m_303 =>
some (0, m_303)))))))))))))
else (bnd (mset m_115 123 20 0) fun m_123 =>
it0 (f_X12_next0_L126 N (fun mk189 => if (5 : Int32) ≤ ((mk189 123 17) - (mk189 123 19)) then (bnd (mset mk189 123 18 1) fun m_208 =>
some (0, m_208))
else (bnd (mset mk189 123 18 2) fun m_208 =>
some (0, m_208)))) N m_123))
else (it0 (f_X12_next0_L76 N ) N m_70)))) N m

def f_X12_bad (N : Nat) (a1 : Int32) (m : Mem) : Ans :=
bnd (mset m 123 21 a1) fun m_2 =>
bnd (mset m_2 123 22 (m_2 123 19)) fun m_10 =>
some (0, m_10)

def f_X12_need (N : Nat) (a1 : Int32) (m : Mem) : Ans :=
if (m 123 18) = a1 then (bd (f_X12_next0 N m) fun _ m_15 =>
some (1, m_15))
else (bd (f_X12_bad N 1 m) fun r_10 m_10 =>
chk (isB r_10) (some (r_10, m_10)))

def f_X12_lay (N : Nat) (a1 : Int32) (a2 : Int32) (m : Mem) : Ans :=
chk (inb ((2 : Int32) * (m 123 14)) 820) <|
bnd (mset m 129 ((2 : Int32) * (m 123 14)).toNatClampNeg a1) fun m_11 =>
chk (inb (((2 : Int32) * (m_11 123 14)) + (1 : Int32)) 820) <|
bnd (mset m_11 129 (((2 : Int32) * (m_11 123 14)) + (1 : Int32)).toNatClampNeg a2) fun m_25 =>
bnd (mset m_25 123 14 ((m_25 123 14) + (1 : Int32))) fun m_33 =>
some (0, m_33)

def f_X12_opens (N : Nat)  (m : Mem) : Ans :=
if (m 123 24) = (8 : Int32) then (bd (f_X12_bad N 3 m) fun r_11 m_11 =>
chk (isB r_11) (some (r_11, m_11)))
else (bnd (mset m 123 24 ((m 123 24) + (1 : Int32))) fun m_22 =>
bd (f_X12_next0 N m_22) fun _ m_26 =>
some (1, m_26))

def f_X12_unit_J30 (N : Nat)    (s1_30 : Int32) (m : Mem) : Ans :=
if s1_30 = 0 then (bd (f_X12_lay N 0 (m 123 20) m) fun _ m_50 =>
bd (f_X12_next0 N m_50) fun _ m_54 =>
some (1, m_54))
else (bd (f_X12_lay N ((m 123 18) - (40 : Int32)) (m 123 20) m) fun _ m_50 =>
bd (f_X12_next0 N m_50) fun _ m_54 =>
some (1, m_54))

def f_X12_unit (N : Nat)  (m : Mem) : Ans :=
bd (f_X12_isIn N (m 123 18) 41 50 m) fun r_8 m_8 =>
if (m_8 123 18) = (2 : Int32) then (f_X12_unit_J30 N r_8 m_8)
else (if r_8 = 0 then (bd (f_X12_bad N 1 m_8) fun r_26 m_26 =>
chk (isB r_26) (some (r_26, m_26)))
else (f_X12_unit_J30 N r_8 m_8))

def f_X12_product_J44 (N : Nat)    (X : Mem → Ans) (t0_44 : Int32) (m : Mem) : Ans :=
bd (f_X12_next0 N m) fun _ m_46 =>
if t0_44 = 0 then (bd (f_X12_unit N m_46) fun r_97 m_97 =>
if r_97 = 0 then (some (0, m_97))
else (bd (f_X12_lay N 25 0 m_97) fun _ m_109 =>
X m_109))
else (bnd (m_46 123 20) fun a2_57 =>
if (m_46 123 18) = (2 : Int32) then (if a2_57 = 0 then (bd (f_X12_bad N 2 m_46) fun r_78 m_78 =>
chk (isB r_78) (some (r_78, m_78)))
else (bd (f_X12_next0 N m_46) fun _ m_83 =>
bd (f_X12_lay N 26 a2_57 m_83) fun _ m_90 =>
X m_90))
else (bd (f_X12_bad N 1 m_46) fun r_68 m_68 =>
chk (isB r_68) (some (r_68, m_68))))

def f_X12_product_J29 (N : Nat)    (X : Mem → Ans)  (m : Mem) : Ans :=
if (m 123 18) = (147 : Int32) then (f_X12_product_J44 N  X 1 m)
else (f_X12_product_J44 N  X 0 m)

def f_X12_product_L9 (N : Nat)    (X : Mem → Ans)  (m : Mem) : Ans :=
if (m 123 18) = (142 : Int32) then (f_X12_product_J29 N  X m)
else (if (m 123 18) = (147 : Int32) then (f_X12_product_J29 N  X m)
else (some (1, m)))

def f_X12_product (N : Nat)  (m : Mem) : Ans :=
bd (f_X12_unit N m) fun r_1 m_1 =>
if r_1 = 0 then (some (0, m_1))
else (it0 (f_X12_product_L9 N ) N m_1)

def f_X12_sumUp_J46 (N : Nat)    (X : Mem → Ans) (t0_46 : Int32) (m : Mem) : Ans :=
bd (f_X12_next0 N m) fun _ m_48 =>
bd (f_X12_product N m_48) fun r_52 m_52 =>
if r_52 = 0 then (some (0, m_52))
else (bd (f_X12_lay N t0_46 0 m_52) fun _ m_63 =>
X m_63)

def f_X12_sumUp_J29 (N : Nat)    (X : Mem → Ans)  (m : Mem) : Ans :=
if (m 123 18) = (143 : Int32) then (f_X12_sumUp_J46 N  X 23 m)
else (f_X12_sumUp_J46 N  X 24 m)

def f_X12_sumUp_L9 (N : Nat)    (X : Mem → Ans)  (m : Mem) : Ans :=
if (m 123 18) = (143 : Int32) then (f_X12_sumUp_J29 N  X m)
else (if (m 123 18) = (145 : Int32) then (f_X12_sumUp_J29 N  X m)
else (some (1, m)))

def f_X12_sumUp (N : Nat)  (m : Mem) : Ans :=
bd (f_X12_product N m) fun r_1 m_1 =>
if r_1 = 0 then (some (0, m_1))
else (it0 (f_X12_sumUp_L9 N ) N m_1)

def f_X12_every_L9 (N : Nat) (ot : Mem → Ans)    (X : Mem → Ans)  (m : Mem) : Ans :=
if (m 123 18) = (5 : Int32) then (bd (f_X12_next0 N m) fun _ m_18 =>
bd (ot m_18) fun r_22 m_22 =>
if r_22 = 0 then (some (0, m_22))
else (bd (f_X12_lay N 31 0 m_22) fun _ m_34 =>
X m_34))
else (some (1, m))

def f_X12_every (N : Nat) (ot : Mem → Ans)  (m : Mem) : Ans :=
bd (ot m) fun r_1 m_1 =>
if r_1 = 0 then (some (0, m_1))
else (it0 (f_X12_every_L9 N ot ) N m_1)

def f_X12_any_L9 (N : Nat) (ot : Mem → Ans)    (X : Mem → Ans)  (m : Mem) : Ans :=
if (m 123 18) = (4 : Int32) then (bd (f_X12_next0 N m) fun _ m_18 =>
bd (f_X12_every N ot m_18) fun r_22 m_22 =>
if r_22 = 0 then (some (0, m_22))
else (bd (f_X12_lay N 32 0 m_22) fun _ m_34 =>
X m_34))
else (some (1, m))

def f_X12_any (N : Nat) (ot : Mem → Ans)  (m : Mem) : Ans :=
bd (f_X12_every N ot m) fun r_1 m_1 =>
if r_1 = 0 then (some (0, m_1))
else (it0 (f_X12_any_L9 N ot ) N m_1)

def f_X12_oneTestB_J147 (N : Nat) (ot : Mem → Ans)    (t0_147 : Int32) (m : Mem) : Ans :=
if t0_147 = (-1 : Int32) then (bd (f_X12_bad N 1 m) fun r_155 m_155 =>
chk (isB r_155) (some (r_155, m_155)))
else (bd (f_X12_next0 N m) fun _ m_160 =>
bd (f_X12_sumUp N m_160) fun r_164 m_164 =>
if r_164 = 0 then (some (0, m_164))
else (bd (f_X12_lay N t0_147 0 m_164) fun _ m_175 =>
some (1, m_175)))

def f_X12_oneTestB (N : Nat) (ot : Mem → Ans)  (m : Mem) : Ans :=
if (m 123 18) = (6 : Int32) then (bd (f_X12_opens N m) fun r_10 m_10 =>
if r_10 = 0 then (some (0, m_10))
else (bd (ot m_10) fun r_17 m_17 =>
if r_17 = 0 then (some (0, m_17))
else (bnd (mset m_17 123 24 ((m_17 123 24) - (1 : Int32))) fun m_32 =>
bd (f_X12_lay N 30 0 m_32) fun _ m_39 =>
some (1, m_39))))
else (if (m 123 18) = (140 : Int32) then (bd (f_X12_opens N m) fun r_55 m_55 =>
if r_55 = 0 then (some (0, m_55))
else (bd (f_X12_any N ot m_55) fun r_62 m_62 =>
if r_62 = 0 then (some (0, m_62))
else (bd (f_X12_need N 141 m_62) fun r_72 m_72 =>
if r_72 = 0 then (some (0, m_72))
else (bnd (mset m_72 123 24 ((m_72 123 24) - (1 : Int32))) fun m_87 =>
some (1, m_87)))))
else (bd (f_X12_sumUp N m) fun r_93 m_93 =>
if r_93 = 0 then (some (0, m_93))
else (if (m_93 123 18) = (160 : Int32) then (f_X12_oneTestB_J147 N ot 27 m_93)
else (if (m_93 123 18) = (161 : Int32) then (f_X12_oneTestB_J147 N ot 28 m_93)
else (if (m_93 123 18) = (162 : Int32) then (f_X12_oneTestB_J147 N ot 29 m_93)
else (f_X12_oneTestB_J147 N ot (-1) m_93))))))

def f_X12_oneTest (N : Nat) : Nat → Mem → Ans
  | 0 => fun _ => none
  | k + 1 => f_X12_oneTestB N (f_X12_oneTest N k)

def f_X12_aLine_J123 (N : Nat)     (m : Mem) : Ans :=
chk (inb (((4 : Int32) * (m 123 13)) + (2 : Int32)) 64) <|
bnd (mset m 128 (((4 : Int32) * (m 123 13)) + (2 : Int32)).toNatClampNeg (m 123 14)) fun m_139 =>
bd (f_X12_need N 159 m_139) fun r_144 m_144 =>
chk (isB r_144) (some (r_144, m_144))

def f_X12_aLine (N : Nat)  (m : Mem) : Ans :=
bd (f_X12_isIn N (m 123 18) 20 22 m) fun r_8 m_8 =>
if r_8 = 0 then (bd (f_X12_bad N 1 m_8) fun r_16 m_16 =>
chk (isB r_16) (some (r_16, m_16)))
else (if (m_8 123 13) = (16 : Int32) then (bd (f_X12_bad N 3 m_8) fun r_31 m_31 =>
chk (isB r_31) (some (r_31, m_31)))
else (bnd (mset m_8 123 24 0) fun m_37 =>
chk (inb (((4 : Int32) * (m_37 123 13)) + (3 : Int32)) 64) <|
bnd (mset m_37 128 (((4 : Int32) * (m_37 123 13)) + (3 : Int32)).toNatClampNeg (m_37 123 18)) fun m_56 =>
bd (f_X12_next0 N m_56) fun _ m_58 =>
chk (inb ((4 : Int32) * (m_58 123 13)) 64) <|
bnd (mset m_58 128 ((4 : Int32) * (m_58 123 13)).toNatClampNeg (m_58 123 14)) fun m_75 =>
bd (f_X12_sumUp N m_75) fun r_77 m_77 =>
if r_77 = 0 then (some (0, m_77))
else (chk (inb (((4 : Int32) * (m_77 123 13)) + (1 : Int32)) 64) <|
bnd (mset m_77 128 (((4 : Int32) * (m_77 123 13)) + (1 : Int32)).toNatClampNeg (m_77 123 14)) fun m_101 =>
if (m_101 123 18) = (3 : Int32) then (bd (f_X12_next0 N m_101) fun _ m_111 =>
bd (f_X12_any N (f_X12_oneTest N 10) m_111) fun r_115 m_115 =>
if r_115 = 0 then (some (0, m_115))
else (f_X12_aLine_J123 N m_115))
else (f_X12_aLine_J123 N m_101))))

def f_X12_readsLaw_L12 (N : Nat)    (X : Int32 → Mem → Ans) (s1_12 : Int32) (m : Mem) : Ans :=
if s1_12 = 0 then (chk (isB s1_12) (some (s1_12, m)))
else (if (m 123 18) = 0 then (chk (isB s1_12) (some (s1_12, m)))
else (bd (f_X12_aLine N m) fun r_24 m_24 =>
if r_24 = 0 then (bnd (mset m_24 123 13 ((m_24 123 13) + (0 : Int32))) fun m_43 =>
X r_24 m_43)
else (bnd (mset m_24 123 13 ((m_24 123 13) + (1 : Int32))) fun m_43 =>
X r_24 m_43)))

def f_X12_readsLaw (N : Nat)  (m : Mem) : Ans :=
bnd (mset m 123 13 0) fun m_2 =>
bnd (mset m_2 123 14 0) fun m_7 =>
it1 (f_X12_readsLaw_L12 N ) N 1 m_7

def f_X12_number (N : Nat) (a1 : Int32) (a2 : Int32) (a3 : Int32) (m : Mem) : Ans :=
if (m 123 18) = (2 : Int32) then (bd (f_X12_isIn N (m 123 20) a2 a3 m) fun r_20 m_20 =>
if r_20 = 0 then (bd (f_X12_bad N 2 m_20) fun r_28 m_28 =>
chk (isB r_28) (some (r_28, m_28)))
else (chk (inb a1 48) <|
bnd (mset m_20 130 a1.toNatClampNeg (m_20 123 20)) fun m_41 =>
bd (f_X12_next0 N m_41) fun _ m_43 =>
some (1, m_43)))
else (bd (f_X12_bad N 1 m) fun r_10 m_10 =>
chk (isB r_10) (some (r_10, m_10)))

def f_X12_told (N : Nat) (a1 : Int32) (a2 : Int32) (a3 : Int32) (a4 : Int32) (m : Mem) : Ans :=
bd (f_X12_need N a2 m) fun r_2 m_2 =>
if r_2 = 0 then (some (0, m_2))
else (bd (f_X12_number N a1 a3 a4 m_2) fun r_13 m_13 =>
if r_13 = 0 then (some (0, m_13))
else (some (1, m_13)))

def f_X12_aRule (N : Nat)  (m : Mem) : Ans :=
bnd ((3 : Int32) * (m 123 15)) fun a1_6 =>
bnd (m 123 18) fun a2_11 =>
chk (inb a1_6 48) <|
bnd (mset m 130 a1_6.toNatClampNeg a2_11) fun m_18 =>
chk (inb (a1_6 + (2 : Int32)) 48) <|
bnd (mset m_18 130 (a1_6 + (2 : Int32)).toNatClampNeg 0) fun m_27 =>
bd (f_X12_next0 N m_27) fun _ m_29 =>
swt (Int32.toInt a2_11 - (7)) [(bd (f_X12_number N (a1_6 + (1 : Int32)) 1 99 m_29) fun r_67 m_67 =>
if r_67 = 0 then (some (0, m_67))
else (bd (f_X12_told N (a1_6 + (2 : Int32)) 11 0 9999 m_67) fun r_83 m_83 =>
if r_83 = 0 then (some (0, m_83))
else (some (1, m_83)))),
(bd (f_X12_number N (a1_6 + (1 : Int32)) 0 20 m_29) fun r_102 m_102 =>
chk (isB r_102) (some (r_102, m_102))),
(bd (f_X12_number N (a1_6 + (1 : Int32)) 0 ((m_29 124 37) - (1 : Int32)) m_29) fun r_120 m_120 =>
chk (isB r_120) (some (r_120, m_120)))] (bd (f_X12_number N (a1_6 + (1 : Int32)) 1 9999 m_29) fun r_132 m_132 =>
chk (isB r_132) (some (r_132, m_132)))

def f_X12_aPiece (N : Nat)  (m : Mem) : Ans :=
bd (f_X12_told N ((2 : Int32) * (m 123 15)) 12 0 9999 m) fun r_13 m_13 =>
if r_13 = 0 then (some (0, m_13))
else (bd (f_X12_told N (((2 : Int32) * (m_13 123 15)) + (1 : Int32)) 13 0 ((m_13 124 38) - (1 : Int32)) m_13) fun r_40 m_40 =>
if r_40 = 0 then (some (0, m_40))
else (some (1, m_40)))

def f_X12_aSeat_J65 (N : Nat)    (s1_65 : Int32) (m : Mem) : Ans :=
bd (f_X12_number N (s1_65 + (1 : Int32)) 0 ((m 124 37) - (1 : Int32)) m) fun r_79 m_79 =>
chk (isB r_79) (some (r_79, m_79))

def f_X12_aSeat (N : Nat)  (m : Mem) : Ans :=
bnd ((2 : Int32) * (m 123 15)) fun a1_6 =>
bd (f_X12_told N a1_6 14 0 ((m 124 37) - (1 : Int32)) m) fun r_21 m_21 =>
if r_21 = 0 then (some (0, m_21))
else (bd (f_X12_need N 15 m_21) fun r_30 m_30 =>
if r_30 = 0 then (some (0, m_30))
else (if (m_30 123 18) = (2 : Int32) then (chk (inb a1_6 48) <|
if (m_30 123 20) = (m_30 130 a1_6.toNatClampNeg) then (bd (f_X12_bad N 2 m_30) fun r_61 m_61 =>
chk (isB r_61) (some (r_61, m_61)))
else (f_X12_aSeat_J65 N a1_6 m_30))
else (f_X12_aSeat_J65 N a1_6 m_30)))

def f_X12_aRow (N : Nat)  (m : Mem) : Ans :=
if (m 123 12) = (1 : Int32) then (bd (f_X12_aRule N m) fun r_9 m_9 =>
if r_9 = 0 then (some (0, m_9))
else (bd (f_X12_need N 159 m_9) fun r_47 m_47 =>
if r_47 = 0 then (some (0, m_47))
else (some (1, m_47))))
else (if (m 123 12) = (2 : Int32) then (bd (f_X12_aPiece N m) fun r_27 m_27 =>
if r_27 = 0 then (some (0, m_27))
else (bd (f_X12_need N 159 m_27) fun r_47 m_47 =>
if r_47 = 0 then (some (0, m_47))
else (some (1, m_47))))
else (bd (f_X12_aSeat N m) fun r_37 m_37 =>
if r_37 = 0 then (some (0, m_37))
else (bd (f_X12_need N 159 m_37) fun r_47 m_47 =>
if r_47 = 0 then (some (0, m_47))
else (some (1, m_47)))))

def f_X12_begins (N : Nat)  (m : Mem) : Ans :=
if (m 123 12) = (1 : Int32) then (bd (f_X12_isIn N (m 123 18) 7 10 m) fun r_16 m_16 =>
chk (isB r_16) (some (r_16, m_16)))
else (if (m 123 12) = (2 : Int32) then (if (m 123 18) = (12 : Int32) then (some (1, m))
else (some (0, m)))
else (if (m 123 18) = (14 : Int32) then (some (1, m))
else (some (0, m))))

def f_X12_readsRows_L7 (N : Nat)    (X : Int32 → Mem → Ans) (s1_7 : Int32) (m : Mem) : Ans :=
if s1_7 = 0 then (chk (isB s1_7) (some (s1_7, m)))
else (if (m 123 18) = 0 then (chk (isB s1_7) (some (s1_7, m)))
else (bd (f_X12_begins N m) fun r_19 m_19 =>
if r_19 = 0 then (bd (f_X12_bad N 1 m_19) fun r_27 m_27 =>
chk (isB r_27) (some (r_27, m_27)))
else (if (m_19 123 15) = (16 : Int32) then (bd (f_X12_bad N 3 m_19) fun r_42 m_42 =>
chk (isB r_42) (some (r_42, m_42)))
else (bd (f_X12_aRow N m_19) fun r_47 m_47 =>
if r_47 = 0 then (bnd (mset m_47 123 15 ((m_47 123 15) + (0 : Int32))) fun m_66 =>
X r_47 m_66)
else (bnd (mset m_47 123 15 ((m_47 123 15) + (1 : Int32))) fun m_66 =>
X r_47 m_66)))))

def f_X12_readsRows (N : Nat)  (m : Mem) : Ans :=
bnd (mset m 123 15 0) fun m_2 =>
it1 (f_X12_readsRows_L7 N ) N 1 m_2

def f_X12_putsLaw_L13 (N : Nat)   (K105 : Mem → Ans) (X : Int32 → Mem → Ans) (s1_13 : Int32) (m : Mem) : Ans :=
if (m 123 13) ≤ s1_13 then (K105 m)
else (chk (inb ((4 : Int32) * s1_13) 64) <|
chk (inb ((823 : Int32) + s1_13) 1707) <|
bnd (mset m 124 ((823 : Int32) + s1_13).toNatClampNeg (m 128 ((4 : Int32) * s1_13).toNatClampNeg)) fun m_38 =>
chk (inb (((4 : Int32) * s1_13) + (1 : Int32)) 64) <|
chk (inb ((839 : Int32) + s1_13) 1707) <|
bnd (mset m_38 124 ((839 : Int32) + s1_13).toNatClampNeg (m_38 128 (((4 : Int32) * s1_13) + (1 : Int32)).toNatClampNeg)) fun m_58 =>
chk (inb (((4 : Int32) * s1_13) + (2 : Int32)) 64) <|
chk (inb ((855 : Int32) + s1_13) 1707) <|
bnd (mset m_58 124 ((855 : Int32) + s1_13).toNatClampNeg (m_58 128 (((4 : Int32) * s1_13) + (2 : Int32)).toNatClampNeg)) fun m_78 =>
chk (inb (((4 : Int32) * s1_13) + (3 : Int32)) 64) <|
chk (inb ((871 : Int32) + s1_13) 1707) <|
bnd (mset m_78 124 ((871 : Int32) + s1_13).toNatClampNeg (m_78 128 (((4 : Int32) * s1_13) + (3 : Int32)).toNatClampNeg)) fun m_98 =>
X (s1_13 + 1) m_98)

def f_X12_putsLaw_L107 (N : Nat)    (X : Int32 → Mem → Ans) (s1_107 : Int32) (m : Mem) : Ans :=
if ((2 : Int32) * (m 123 14)) ≤ s1_107 then (some (m 123 13, m))
else (chk (inb s1_107 820) <|
chk (inb ((887 : Int32) + s1_107) 1707) <|
bnd (mset m 124 ((887 : Int32) + s1_107).toNatClampNeg (m 129 s1_107.toNatClampNeg)) fun m_132 =>
X (s1_107 + 1) m_132)

def f_X12_putsLaw (N : Nat)  (m : Mem) : Ans :=
bnd (mset m 124 40 (m 123 13)) fun m_10 =>
it1 (f_X12_putsLaw_L13 N (fun mk105 => it1 (f_X12_putsLaw_L107 N ) N 0 mk105)) N 0 m_10

def f_X12_puts_L13 (N : Nat) (a1 : Int32) (a2 : Int32) (a3 : Int32)   (X : Int32 → Mem → Ans) (s4_13 : Int32) (m : Mem) : Ans :=
if (a3 * (m 123 15)) ≤ s4_13 then (some (m 123 15, m))
else (chk (inb s4_13 48) <|
chk (inb (a2 + s4_13) 1707) <|
bnd (mset m 124 (a2 + s4_13).toNatClampNeg (m 130 s4_13.toNatClampNeg)) fun m_39 =>
X (s4_13 + 1) m_39)

def f_X12_puts (N : Nat) (a1 : Int32) (a2 : Int32) (a3 : Int32) (m : Mem) : Ans :=
chk (inb a1 1707) <|
bnd (mset m 124 a1.toNatClampNeg (m 123 15)) fun m_9 =>
it1 (f_X12_puts_L13 N a1 a2 a3 ) N 0 m_9

def f_X12_putsGallery_L13 (N : Nat)   (K36 : Mem → Ans) (X : Int32 → Mem → Ans) (s1_13 : Int32) (m : Mem) : Ans :=
if (12 : Int32) ≤ s1_13 then (K36 m)
else (chk (inb ((185 : Int32) + s1_13) 1707) <|
bnd (mset m 124 ((185 : Int32) + s1_13).toNatClampNeg 0) fun m_29 =>
X (s1_13 + 1) m_29)

def f_X12_putsGallery_L38 (N : Nat)    (X : Int32 → Mem → Ans) (s1_38 : Int32) (m : Mem) : Ans :=
if (m 123 15) ≤ s1_38 then (some (m 123 15, m))
else (chk (inb ((2 : Int32) * s1_38) 48) <|
chk (inb ((185 : Int32) + (m 130 ((2 : Int32) * s1_38).toNatClampNeg)) 1707) <|
chk (inb (((2 : Int32) * s1_38) + (1 : Int32)) 48) <|
chk (inb ((185 : Int32) + (m 130 ((2 : Int32) * s1_38).toNatClampNeg)) 1707) <|
bnd (mset m 124 ((185 : Int32) + (m 130 ((2 : Int32) * s1_38).toNatClampNeg)).toNatClampNeg ((m 124 ((185 : Int32) + (m 130 ((2 : Int32) * s1_38).toNatClampNeg)).toNatClampNeg) ||| ((1 : Int32) <<< ((m 130 (((2 : Int32) * s1_38) + (1 : Int32)).toNatClampNeg) &&& 31)))) fun m_77 =>
chk (inb (((2 : Int32) * s1_38) + (1 : Int32)) 48) <|
chk (inb ((185 : Int32) + (m_77 130 (((2 : Int32) * s1_38) + (1 : Int32)).toNatClampNeg)) 1707) <|
chk (inb ((2 : Int32) * s1_38) 48) <|
chk (inb ((185 : Int32) + (m_77 130 (((2 : Int32) * s1_38) + (1 : Int32)).toNatClampNeg)) 1707) <|
bnd (mset m_77 124 ((185 : Int32) + (m_77 130 (((2 : Int32) * s1_38) + (1 : Int32)).toNatClampNeg)).toNatClampNeg ((m_77 124 ((185 : Int32) + (m_77 130 (((2 : Int32) * s1_38) + (1 : Int32)).toNatClampNeg)).toNatClampNeg) ||| ((1 : Int32) <<< ((m_77 130 ((2 : Int32) * s1_38).toNatClampNeg) &&& 31)))) fun m_109 =>
X (s1_38 + 1) m_109)

def f_X12_putsGallery (N : Nat)  (m : Mem) : Ans :=
bnd (mset m 124 43 (m 123 15)) fun m_10 =>
it1 (f_X12_putsGallery_L13 N (fun mk36 => it1 (f_X12_putsGallery_L38 N ) N 0 mk36)) N 0 m_10

def f_X12_putsText (N : Nat) (a1 : Int32) (m : Mem) : Ans :=
if a1 = 0 then (bd (f_X12_putsLaw N m) fun r_5 m_5 =>
some (r_5, m_5))
else (bd (f_X12_forgets N m) fun _ m_10 =>
if a1 = (1 : Int32) then (bd (f_X12_puts N 41 105 3 m_10) fun r_24 m_24 =>
some (r_24, m_24))
else (if a1 = (2 : Int32) then (bd (f_X12_puts N 42 153 2 m_10) fun r_42 m_42 =>
some (r_42, m_42))
else (bd (f_X12_putsGallery N m_10) fun r_49 m_49 =>
some (r_49, m_49))))

def f_X12_text_J60 (N : Nat) (a1 : Int32)   (t0_60 : Int32) (m : Mem) : Ans :=
bnd (mset m 123 16 0) fun m_63 =>
if t0_60 = 0 then (bnd (mset m_63 123 23 (m_63 123 21)) fun m_81 =>
bnd (mset m_81 123 25 (m_81 123 22)) fun m_89 =>
some ((-1), m_89))
else (bd (f_X12_putsText N a1 m_63) fun r_72 m_72 =>
some (r_72, m_72))

def f_X12_text (N : Nat) (a1 : Int32) (m : Mem) : Ans :=
bnd (mset m 123 23 0) fun m_2 =>
bnd (mset m_2 123 25 (-1)) fun m_7 =>
bd (f_X12_isIn N a1 0 3 m_7) fun r_13 m_13 =>
if r_13 = 0 then (bnd (mset m_13 123 16 0) fun m_21 =>
some ((-1), m_21))
else (bnd (mset m_13 123 21 0) fun m_28 =>
bnd (mset m_28 123 17 0) fun m_33 =>
bnd (mset m_33 123 12 a1) fun m_38 =>
bd (f_X12_next0 N m_38) fun _ m_42 =>
if a1 = 0 then (bd (f_X12_readsLaw N m_42) fun r_50 m_50 =>
f_X12_text_J60 N a1 r_50 m_50)
else (bd (f_X12_readsRows N m_42) fun r_57 m_57 =>
f_X12_text_J60 N a1 r_57 m_57))

def f_X12_fault (N : Nat) (a1 : Int32) (m : Mem) : Ans :=
if a1 = 0 then (some (m 123 23, m))
else (if a1 = (1 : Int32) then (some (m 123 25, m))
else (some ((-1), m)))

def f_X12_both (N : Nat) (a0 : Int32) (a1 : Int32) (a2 : Int32) (m : Mem) : Ans :=
swt (Int32.toInt a0 - (23)) [(some ((a1 + a2), m)),
(some ((a1 - a2), m)),
(some ((a1 * a2), m)),
(some ((a1 ||| a2), m)),
(if a2 ≤ a1 then (some (0, m))
else (some (1, m))),
(if a1 = a2 then (some (1, m))
else (some (0, m))),
(if a1 ≤ a2 then (some (0, m))
else (some (1, m))),
(some ((a1 ||| a2), m)),
(some ((a1 &&& a2), m))] (some ((a1 ||| a2), m))

def f_X12_comesTo_L6 (N : Nat) (a1 : Int32) (a2 : Int32) (a3 : Int32)   (X : Int32 → Int32 → Mem → Ans) (s4_6 : Int32) (s5_6 : Int32) (m : Mem) : Ans :=
if a3 ≤ s5_6 then (some (m 132 0, m))
else (chk (inb (((887 : Int32) + ((820 : Int32) * a1)) + ((2 : Int32) * s5_6)) 1707) <|
bnd (m 124 (((887 : Int32) + ((820 : Int32) * a1)) + ((2 : Int32) * s5_6)).toNatClampNeg) fun a6_31 =>
chk (inb ((((887 : Int32) + ((820 : Int32) * a1)) + ((2 : Int32) * s5_6)) + (1 : Int32)) 1707) <|
bnd (m 124 ((((887 : Int32) + ((820 : Int32) * a1)) + ((2 : Int32) * s5_6)) + (1 : Int32)).toNatClampNeg) fun a7_54 =>
if (23 : Int32) ≤ a6_31 then (if a6_31 = (26 : Int32) then (chk (inb (s4_6 - (1 : Int32)) 420) <|
chk (decide (a7_54 ≠ 0)) <|
chk (inb (s4_6 - (1 : Int32)) 420) <|
bnd (mset m 132 (s4_6 - (1 : Int32)).toNatClampNeg ((m 132 (s4_6 - (1 : Int32)).toNatClampNeg) / a7_54)) fun m_113 =>
X s4_6 (s5_6 + 1) m_113)
else (if a6_31 = (30 : Int32) then (chk (inb (s4_6 - (1 : Int32)) 420) <|
chk (inb (s4_6 - (1 : Int32)) 420) <|
bnd (mset m 132 (s4_6 - (1 : Int32)).toNatClampNeg ((1 : Int32) - (m 132 (s4_6 - (1 : Int32)).toNatClampNeg))) fun m_143 =>
X s4_6 (s5_6 + 1) m_143)
else (chk (inb ((s4_6 + (-1)) - (1 : Int32)) 420) <|
chk (inb (s4_6 + (-1)) 420) <|
bd (f_X12_both N a6_31 (m 132 ((s4_6 + (-1)) - (1 : Int32)).toNatClampNeg) (m 132 (s4_6 + (-1)).toNatClampNeg) m) fun r_176 m_176 =>
chk (inb ((s4_6 + (-1)) - (1 : Int32)) 420) <|
bnd (mset m_176 132 ((s4_6 + (-1)) - (1 : Int32)).toNatClampNeg r_176) fun m_179 =>
X (s4_6 + (-1)) (s5_6 + 1) m_179)))
else (if a6_31 = 0 then (chk (inb s4_6 420) <|
bnd (mset m 132 s4_6.toNatClampNeg a7_54) fun m_86 =>
X (s4_6 + 1) (s5_6 + 1) m_86)
else (chk (inb a6_31 11) <|
chk (inb s4_6 420) <|
bnd (mset m 132 s4_6.toNatClampNeg (m 133 a6_31.toNatClampNeg)) fun m_86 =>
X (s4_6 + 1) (s5_6 + 1) m_86)))

def f_X12_comesTo (N : Nat) (a1 : Int32) (a2 : Int32) (a3 : Int32) (m : Mem) : Ans :=
it2 (f_X12_comesTo_L6 N a1 a2 a3 ) N 0 a2 m

def f_X12_isSo (N : Nat) (a1 : Int32) (m : Mem) : Ans :=
chk (inb ((855 : Int32) + a1) 1707) <|
chk (inb ((839 : Int32) + a1) 1707) <|
if (m 124 ((855 : Int32) + a1).toNatClampNeg) = (m 124 ((839 : Int32) + a1).toNatClampNeg) then (some (1, m))
else (chk (inb ((839 : Int32) + a1) 1707) <|
chk (inb ((855 : Int32) + a1) 1707) <|
bd (f_X12_comesTo N 0 (m 124 ((839 : Int32) + a1).toNatClampNeg) (m 124 ((855 : Int32) + a1).toNatClampNeg) m) fun r_45 m_45 =>
if r_45 = (1 : Int32) then (some (1, m_45))
else (some (0, m_45)))

def f_X12_says_L3 (N : Nat) (a1 : Int32) (a2 : Int32) (a3 : Int32)  (K39 : Int32 → Mem → Ans) (X : Int32 → Mem → Ans) (s4_3 : Int32) (m : Mem) : Ans :=
if (m 124 40) ≤ s4_3 then (bd (f_X12_lesser N a3 a2 m) fun r_84 m_84 =>
bd (f_X12_greater N 0 r_84 m_84) fun r_87 m_87 =>
some (r_87, m_87))
else (chk (inb ((871 : Int32) + s4_3) 1707) <|
if (m 124 ((871 : Int32) + s4_3).toNatClampNeg) = a1 then (bd (f_X12_isSo N s4_3 m) fun r_33 m_33 =>
if r_33 = 0 then (X (s4_3 + 1) m_33)
else (K39 s4_3 m_33))
else (X (s4_3 + 1) m))

def f_X12_says (N : Nat) (a1 : Int32) (a2 : Int32) (a3 : Int32) (m : Mem) : Ans :=
it1 (f_X12_says_L3 N a1 a2 a3 (fun k4_39 mk39 => chk (inb ((823 : Int32) + k4_39) 1707) <|
chk (inb ((839 : Int32) + k4_39) 1707) <|
bd (f_X12_comesTo N 0 (mk39 124 ((823 : Int32) + k4_39).toNatClampNeg) (mk39 124 ((839 : Int32) + k4_39).toNatClampNeg) mk39) fun r_65 m_65 =>
bd (f_X12_lesser N a3 r_65 m_65) fun r_68 m_68 =>
bd (f_X12_greater N 0 r_68 m_68) fun r_71 m_71 =>
some (r_71, m_71))) N 0 m

def f_X12_laysDeed_L2 (N : Nat) (a1 : Int32)  (K24 : Mem → Ans) (X : Int32 → Mem → Ans) (s2_2 : Int32) (m : Mem) : Ans :=
if (11 : Int32) ≤ s2_2 then (K24 m)
else (chk (inb s2_2 11) <|
bnd (mset m 133 s2_2.toNatClampNeg 0) fun m_17 =>
X (s2_2 + 1) m_17)

def f_X12_laysDeed (N : Nat) (a1 : Int32) (m : Mem) : Ans :=
it1 (f_X12_laysDeed_L2 N a1 (fun mk24 => chk (inb ((81 : Int32) + a1) 1707) <|
bnd (mset mk24 133 6 (mk24 124 ((81 : Int32) + a1).toNatClampNeg)) fun m_39 =>
chk (inb ((21 : Int32) + a1) 1707) <|
bnd (mset m_39 133 7 (m_39 124 ((21 : Int32) + a1).toNatClampNeg)) fun m_55 =>
bnd (mset m_55 133 8 (m_55 124 4)) fun m_68 =>
bnd (mset m_68 133 10 ((m_68 124 0) / (60 : Int32))) fun m_84 =>
some (0, m_84))) N 0 m

def f_X12_loudOf (N : Nat) (a1 : Int32) (m : Mem) : Ans :=
bd (f_X12_laysDeed N a1 m) fun _ m_2 =>
chk (inb ((81 : Int32) + a1) 1707) <|
bd (f_X12_says N 20 ((m_2 124 ((81 : Int32) + a1).toNatClampNeg) / (3 : Int32)) 99 m_2) fun r_21 m_21 =>
some (r_21, m_21)

def f_X12_wearsOf (N : Nat) (a1 : Int32) (m : Mem) : Ans :=
bd (f_X12_laysDeed N a1 m) fun _ m_2 =>
bd (f_X12_says N 22 2 99 m_2) fun r_11 m_11 =>
some (r_11, m_11)

def f_X12_clapOf (N : Nat) (a1 : Int32) (a2 : Int32) (a3 : Int32) (m : Mem) : Ans :=
bd (f_X12_laysDeed N a2 m) fun _ m_2 =>
bnd (mset m_2 133 1 a1) fun m_11 =>
chk (inb ((45 : Int32) + a1) 1707) <|
bnd (mset m_11 133 2 (m_11 124 ((45 : Int32) + a1).toNatClampNeg)) fun m_26 =>
chk (inb ((57 : Int32) + a1) 1707) <|
bnd (mset m_26 133 3 (m_26 124 ((57 : Int32) + a1).toNatClampNeg)) fun m_41 =>
chk (inb ((69 : Int32) + a1) 1707) <|
bnd (mset m_41 133 4 (m_41 124 ((69 : Int32) + a1).toNatClampNeg)) fun m_56 =>
chk (inb ((9 : Int32) + a1) 1707) <|
bnd (mset m_56 133 5 (m_56 124 ((9 : Int32) + a1).toNatClampNeg)) fun m_71 =>
bnd (mset m_71 133 9 a3) fun m_79 =>
chk (inb ((57 : Int32) + a1) 1707) <|
bd (f_X12_says N 21 ((100 : Int32) * (m_79 124 ((57 : Int32) + a1).toNatClampNeg)) 1000 m_79) fun r_98 m_98 =>
some (r_98, m_98)

def f_X12_handsAsked_L4 (N : Nat)    (X : Int32 → Int32 → Mem → Ans) (s1_4 : Int32) (s2_4 : Int32) (m : Mem) : Ans :=
if (m 124 41) ≤ s2_4 then (if s1_4 = (-1 : Int32) then (some (5, m))
else (chk (inb (s1_4 + (1 : Int32)) 1707) <|
some (m 124 (s1_4 + (1 : Int32)).toNatClampNeg, m)))
else (bnd ((105 : Int32) + ((3 : Int32) * s2_4)) fun a3_21 =>
chk (inb a3_21 1707) <|
if (m 124 a3_21.toNatClampNeg) = (7 : Int32) then (chk (inb (a3_21 + (2 : Int32)) 1707) <|
if (m 124 1) < (m 124 (a3_21 + (2 : Int32)).toNatClampNeg) then (X s1_4 (s2_4 + 1) m)
else (if s1_4 = (-1 : Int32) then (X a3_21 (s2_4 + 1) m)
else (chk (inb (a3_21 + (2 : Int32)) 1707) <|
chk (inb (s1_4 + (2 : Int32)) 1707) <|
if (m 124 (a3_21 + (2 : Int32)).toNatClampNeg) < (m 124 (s1_4 + (2 : Int32)).toNatClampNeg) then (X s1_4 (s2_4 + 1) m)
else (X a3_21 (s2_4 + 1) m))))
else (X s1_4 (s2_4 + 1) m))

def f_X12_handsAsked (N : Nat)  (m : Mem) : Ans :=
it2 (f_X12_handsAsked_L4 N ) N (-1) 0 m

def f_X12_lastRule_L5 (N : Nat) (a1 : Int32) (a2 : Int32)   (X : Int32 → Int32 → Mem → Ans) (s3_5 : Int32) (s4_5 : Int32) (m : Mem) : Ans :=
if (m 124 41) ≤ s4_5 then (some (s3_5, m))
else (chk (inb ((105 : Int32) + ((3 : Int32) * s4_5)) 1707) <|
if (m 124 ((105 : Int32) + ((3 : Int32) * s4_5)).toNatClampNeg) = a1 then (chk (inb (((105 : Int32) + ((3 : Int32) * s4_5)) + (1 : Int32)) 1707) <|
bnd (m 124 (((105 : Int32) + ((3 : Int32) * s4_5)) + (1 : Int32)).toNatClampNeg) fun a3_51 =>
X a3_51 (s4_5 + 1) m)
else (X s3_5 (s4_5 + 1) m))

def f_X12_lastRule (N : Nat) (a1 : Int32) (a2 : Int32) (m : Mem) : Ans :=
it2 (f_X12_lastRule_L5 N a1 a2 ) N a2 0 m

def f_X12_mostAgains (N : Nat)  (m : Mem) : Ans :=
bd (f_X12_lastRule N 8 9 m) fun r_5 m_5 =>
some (r_5, m_5)

def f_X12_endsAt (N : Nat)  (m : Mem) : Ans :=
bd (f_X12_lastRule N 10 300 m) fun r_6 m_6 =>
some (r_6, m_6)

def f_X12_countsAs_L2 (N : Nat) (a1 : Int32)   (X : Int32 → Mem → Ans) (s2_2 : Int32) (m : Mem) : Ans :=
if (m 124 41) ≤ s2_2 then (some (1, m))
else (chk (inb ((105 : Int32) + ((3 : Int32) * s2_2)) 1707) <|
if (m 124 ((105 : Int32) + ((3 : Int32) * s2_2)).toNatClampNeg) = (9 : Int32) then (chk (inb (((105 : Int32) + ((3 : Int32) * s2_2)) + (1 : Int32)) 1707) <|
if (m 124 (((105 : Int32) + ((3 : Int32) * s2_2)) + (1 : Int32)).toNatClampNeg) = a1 then (some (2, m))
else (X (s2_2 + 1) m))
else (X (s2_2 + 1) m))

def f_X12_countsAs (N : Nat) (a1 : Int32) (m : Mem) : Ans :=
it1 (f_X12_countsAs_L2 N a1 ) N 0 m

def f_X12_keeps_L51 (N : Nat)    (X : Int32 → Mem → Ans) (s1_51 : Int32) (m : Mem) : Ans :=
if (37 : Int32) ≤ s1_51 then (bnd (mset m 123 4 ((m 123 4) + (1 : Int32))) fun m_90 =>
bnd (mset m_90 123 26 1) fun m_95 =>
some (0, m_95))
else (chk (inb s1_51 1707) <|
chk (inb (((37 : Int32) * (m 123 4)) + s1_51) 222) <|
bnd (mset m 126 (((37 : Int32) * (m 123 4)) + s1_51).toNatClampNeg (m 124 s1_51.toNatClampNeg)) fun m_76 =>
X (s1_51 + 1) m_76)

def f_X12_keeps_J49 (N : Nat)     (m : Mem) : Ans :=
it1 (f_X12_keeps_L51 N ) N 0 m

def f_X12_keeps_L11 (N : Nat)   (K39 : Mem → Ans) (X : Int32 → Mem → Ans) (s1_11 : Int32) (m : Mem) : Ans :=
if (185 : Int32) ≤ s1_11 then (K39 m)
else (chk (inb (s1_11 + (37 : Int32)) 222) <|
chk (inb s1_11 222) <|
bnd (mset m 126 s1_11.toNatClampNeg (m 126 (s1_11 + (37 : Int32)).toNatClampNeg)) fun m_32 =>
X (s1_11 + 1) m_32)

def f_X12_keeps (N : Nat)  (m : Mem) : Ans :=
if (m 123 4) = (6 : Int32) then (it1 (f_X12_keeps_L11 N (fun mk39 => bnd (mset mk39 123 4 ((mk39 123 4) - (1 : Int32))) fun m_46 =>
f_X12_keeps_J49 N m_46)) N 0 m)
else (f_X12_keeps_J49 N m)

def f_X12_undo_L21 (N : Nat)    (X : Int32 → Mem → Ans) (s1_21 : Int32) (m : Mem) : Ans :=
if (37 : Int32) ≤ s1_21 then (some (1, m))
else (chk (inb (((37 : Int32) * (m 123 4)) + s1_21) 222) <|
chk (inb s1_21 1707) <|
bnd (mset m 124 s1_21.toNatClampNeg (m 126 (((37 : Int32) * (m 123 4)) + s1_21).toNatClampNeg)) fun m_46 =>
X (s1_21 + 1) m_46)

def f_X12_undo (N : Nat)  (m : Mem) : Ans :=
if (m 123 4) = 0 then (some (0, m))
else (bnd (mset m 123 4 ((m 123 4) - (1 : Int32))) fun m_16 =>
it1 (f_X12_undo_L21 N ) N 0 m_16)

def f_X12_notes (N : Nat) (a1 : Int32) (a2 : Int32) (a3 : Int32) (m : Mem) : Ans :=
if (m 123 26) = 0 then (some (0, m))
else (if (m 124 6) = (150 : Int32) then (some (0, m))
else (bnd ((223 : Int32) + ((4 : Int32) * (m 124 6))) fun a4_34 =>
chk (inb a4_34 1707) <|
bnd (mset m 124 a4_34.toNatClampNeg (m 124 1)) fun m_48 =>
chk (inb (a4_34 + (1 : Int32)) 1707) <|
bnd (mset m_48 124 (a4_34 + (1 : Int32)).toNatClampNeg a1) fun m_58 =>
chk (inb (a4_34 + (2 : Int32)) 1707) <|
bnd (mset m_58 124 (a4_34 + (2 : Int32)).toNatClampNeg a2) fun m_68 =>
chk (inb (a4_34 + (3 : Int32)) 1707) <|
bnd (mset m_68 124 (a4_34 + (3 : Int32)).toNatClampNeg a3) fun m_78 =>
bnd (mset m_78 124 6 ((m_78 124 6) + (1 : Int32))) fun m_89 =>
some (0, m_89)))

def f_X12_begins0_J27 (N : Nat) (a1 : Int32)   (t0_27 : Int32) (t1_27 : Int32) (m : Mem) : Ans :=
chk (inb t1_27 1707) <|
bnd (mset m 124 t1_27.toNatClampNeg t0_27) fun m_27 =>
bnd (mset m_27 124 3 a1) fun m_34 =>
bd (f_X12_wearsOf N a1 m_34) fun r_37 m_37 =>
chk (inb ((89 : Int32) + a1) 1707) <|
bnd (mset m_37 124 0 ((m_37 124 0) + (m_37 124 ((89 : Int32) + a1).toNatClampNeg))) fun m_58 =>
chk (inb ((97 : Int32) + a1) 1707) <|
bnd (mset m_58 124 2 ((m_58 124 2) - (m_58 124 ((97 : Int32) + a1).toNatClampNeg))) fun m_76 =>
chk (inb ((29 : Int32) + a1) 1707) <|
chk (inb ((29 : Int32) + a1) 1707) <|
bnd (mset m_76 124 ((29 : Int32) + a1).toNatClampNeg ((m_76 124 ((29 : Int32) + a1).toNatClampNeg) + (1 : Int32))) fun m_89 =>
chk (inb ((21 : Int32) + a1) 1707) <|
bd (f_X12_lesser N 99 ((m_89 124 ((21 : Int32) + a1).toNatClampNeg) + r_37) m_89) fun r_111 m_111 =>
chk (inb ((21 : Int32) + a1) 1707) <|
bnd (mset m_111 124 ((21 : Int32) + a1).toNatClampNeg r_111) fun m_114 =>
some (0, m_114)

def f_X12_begins0 (N : Nat) (a1 : Int32) (m : Mem) : Ans :=
if (m 124 3) = a1 then (f_X12_begins0_J27 N a1 ((m 124 4) + (1 : Int32)) 4 m)
else (f_X12_begins0_J27 N a1 0 4 m)

def f_X12_aRound_L4 (N : Nat) (a1 : Int32)   (X : Int32 → Int32 → Mem → Ans) (s2_4 : Int32) (s3_4 : Int32) (m : Mem) : Ans :=
if (m 124 37) ≤ s3_4 then (chk (isB s2_4) (some (s2_4, m)))
else (bd (f_X12_isThere N s3_4 m) fun r_17 m_17 =>
if r_17 = 0 then (X s2_4 (s3_4 + 1) m_17)
else (bd (f_X12_isGloved N s3_4 m_17) fun r_25 m_25 =>
if r_25 = 0 then (if (((m_25 123 28) >>> (s3_4 &&& 31)) &&& (1 : Int32)) = (1 : Int32) then (X s2_4 (s3_4 + 1) m_25)
else (chk (inb s3_4 12) <|
chk (inb ((185 : Int32) + s3_4) 1707) <|
bd (f_X12_count N ((m_25 124 ((185 : Int32) + s3_4).toNatClampNeg) &&& (m_25 123 28)) m_25) fun r_70 m_70 =>
bd (f_X12_clapOf N s3_4 a1 r_70 m_70) fun r_73 m_73 =>
if (m_25 134 s3_4.toNatClampNeg) < r_73 then (bnd (mset m_73 123 28 ((m_73 123 28) ||| ((1 : Int32) <<< (s3_4 &&& 31)))) fun m_91 =>
X 1 (s3_4 + 1) m_91)
else (X s2_4 (s3_4 + 1) m_73)))
else (X s2_4 (s3_4 + 1) m_25)))

def f_X12_aRound (N : Nat) (a1 : Int32) (m : Mem) : Ans :=
it2 (f_X12_aRound_L4 N a1 ) N 0 0 m

def f_X12_handsClapping_L4 (N : Nat)    (X : Int32 → Int32 → Mem → Ans) (s1_4 : Int32) (s2_4 : Int32) (m : Mem) : Ans :=
if (m 124 37) ≤ s2_4 then (some (s1_4, m))
else (if (((m 123 28) >>> (s2_4 &&& 31)) &&& (1 : Int32)) = (1 : Int32) then (chk (inb ((45 : Int32) + s2_4) 1707) <|
bd (f_X12_countsAs N s2_4 m) fun r_39 m_39 =>
bnd (s1_4 + ((m 124 ((45 : Int32) + s2_4).toNatClampNeg) * r_39)) fun a1_48 =>
X a1_48 (s2_4 + 1) m_39)
else (bnd (s1_4 + (0 : Int32)) fun a1_48 =>
X a1_48 (s2_4 + 1) m))

def f_X12_handsClapping (N : Nat)  (m : Mem) : Ans :=
it2 (f_X12_handsClapping_L4 N ) N 0 0 m

def f_X12_claps_L2 (N : Nat) (a1 : Int32)  (K53 : Mem → Ans) (X : Int32 → Mem → Ans) (s2_2 : Int32) (m : Mem) : Ans :=
if (m 124 37) ≤ s2_2 then (K53 m)
else (bd (f_X12_isThere N s2_2 m) fun r_15 m_15 =>
if r_15 = 0 then (X (s2_2 + 1) m_15)
else (if (m_15 123 26) = 0 then (chk (inb s2_2 12) <|
bnd (mset m_15 134 s2_2.toNatClampNeg 500) fun m_46 =>
X (s2_2 + 1) m_46)
else (bd (f_X12_draw N 1000 m_15) fun r_37 m_37 =>
chk (inb s2_2 12) <|
bnd (mset m_37 134 s2_2.toNatClampNeg r_37) fun m_46 =>
X (s2_2 + 1) m_46)))

def f_X12_claps_L63 (N : Nat) (a1 : Int32)  (K84 : Mem → Ans) (X : Mem → Ans)  (m : Mem) : Ans :=
bd (f_X12_aRound N a1 m) fun r_65 m_65 =>
if r_65 = 0 then (K84 m_65)
else (bnd (mset m_65 123 29 ((m_65 123 29) + (1 : Int32))) fun m_78 =>
X m_78)

def f_X12_claps_J204 (N : Nat) (a1 : Int32)   (t0_204 : Int32) (m : Mem) : Ans :=
chk (isB t0_204) <|
bnd (mset m 123 31 t0_204) fun m_204 =>
if (m_204 124 4) = 0 then (bd (f_X12_notes N 0 a1 (m_204 123 30) m_204) fun _ m_227 =>
some (0, m_227))
else (bd (f_X12_notes N 1 a1 (m_204 123 30) m_204) fun _ m_227 =>
some (0, m_227))

def f_X12_claps_J203 (N : Nat) (a1 : Int32)    (m : Mem) : Ans :=
f_X12_claps_J204 N a1 0 m

def f_X12_claps_J154 (N : Nat) (a1 : Int32)   (s2_154 : Int32) (t0_154 : Int32) (m : Mem) : Ans :=
bnd (mset m 123 30 t0_154) fun m_154 =>
if s2_154 = 0 then (bd (f_X12_handsAsked N m_154) fun r_167 m_167 =>
if (m_154 123 30) < r_167 then (f_X12_claps_J203 N a1 m_167)
else (bd (f_X12_mostAgains N m_167) fun r_180 m_180 =>
if r_180 ≤ (m_167 124 4) then (f_X12_claps_J203 N a1 m_180)
else (bd (f_X12_endsAt N m_180) fun r_193 m_193 =>
if r_193 ≤ (m_180 124 0) then (f_X12_claps_J203 N a1 m_193)
else (f_X12_claps_J204 N a1 1 m_193))))
else (f_X12_claps_J203 N a1 m_154)

def f_X12_claps_J135 (N : Nat) (a1 : Int32)   (s2_135 : Int32) (m : Mem) : Ans :=
if s2_135 = 0 then (bd (f_X12_loudOf N a1 m) fun r_146 m_146 =>
bd (f_X12_handsClapping N m_146) fun r_150 m_150 =>
f_X12_claps_J154 N a1 s2_135 (r_146 + r_150) m_150)
else (f_X12_claps_J154 N a1 s2_135 0 m)

def f_X12_claps_J123 (N : Nat) (a1 : Int32)   (t0_123 : Int32) (m : Mem) : Ans :=
if t0_123 = 0 then (f_X12_claps_J135 N a1 t0_123 m)
else (bd (f_X12_notes N 2 a1 0 m) fun _ m_132 =>
f_X12_claps_J135 N a1 t0_123 m_132)

def f_X12_claps_J122 (N : Nat) (a1 : Int32)    (m : Mem) : Ans :=
f_X12_claps_J123 N a1 0 m

def f_X12_claps (N : Nat) (a1 : Int32) (m : Mem) : Ans :=
it1 (f_X12_claps_L2 N a1 (fun mk53 => bnd (mset mk53 123 28 0) fun m_55 =>
bnd (mset m_55 123 29 0) fun m_60 =>
it0 (f_X12_claps_L63 N a1 (fun mk84 => if (mk84 123 26) = 0 then (f_X12_claps_J122 N a1 mk84)
else (if (mk84 124 39) ≤ 0 then (f_X12_claps_J122 N a1 mk84)
else (bd (f_X12_draw N 1000 mk84) fun r_105 m_105 =>
if (m_105 124 39) ≤ r_105 then (f_X12_claps_J122 N a1 m_105)
else (f_X12_claps_J123 N a1 1 m_105))))) N m_60)) N 0 m

def f_X12_does_L7 (N : Nat) (a1 : Int32)   (X : Int32 → Mem → Ans) (s2_7 : Int32) (m : Mem) : Ans :=
if (m 123 31) = 0 then (some (s2_7, m))
else (bd (f_X12_begins0 N a1 m) fun _ m_16 =>
bd (f_X12_claps N a1 m_16) fun _ m_21 =>
X (s2_7 + 1) m_21)

def f_X12_does (N : Nat) (a1 : Int32) (m : Mem) : Ans :=
bnd (mset m 123 31 1) fun m_4 =>
it1 (f_X12_does_L7 N a1 ) N 0 m_4

def f_X12_perform (N : Nat) (a1 : Int32) (m : Mem) : Ans :=
bd (f_X12_isDeed N a1 m) fun r_2 m_2 =>
if r_2 = 0 then (some ((-1), m_2))
else (chk (inb ((89 : Int32) + a1) 1707) <|
if ((m_2 124 0) + ((21 : Int32) * (m_2 124 ((89 : Int32) + a1).toNatClampNeg))) < (9999 : Int32) then (bd (f_X12_keeps N m_2) fun _ m_36 =>
bd (f_X12_does N a1 m_36) fun r_41 m_41 =>
some (r_41, m_41))
else (some ((-1), m_2)))

def f_X12_pay (N : Nat) (a1 : Int32) (a2 : Int32) (m : Mem) : Ans :=
bd (f_X12_isHearer N a1 m) fun r_2 m_2 =>
if r_2 = 0 then (some (0, m_2))
else (bd (f_X12_isIn N a2 1 99 m_2) fun r_12 m_12 =>
if r_12 = 0 then (some (0, m_12))
else (bd (f_X12_keeps N m_12) fun _ m_21 =>
chk (inb ((9 : Int32) + a1) 1707) <|
bd (f_X12_lesser N 99 ((m_21 124 ((9 : Int32) + a1).toNatClampNeg) + a2) m_21) fun r_45 m_45 =>
chk (inb ((9 : Int32) + a1) 1707) <|
bnd (mset m_45 124 ((9 : Int32) + a1).toNatClampNeg r_45) fun m_48 =>
bnd (mset m_48 124 2 ((m_48 124 2) - a2)) fun m_58 =>
bd (f_X12_notes N 3 a1 a2 m_58) fun _ m_63 =>
some (1, m_63)))

def f_X12_glove (N : Nat) (a1 : Int32) (a2 : Int32) (m : Mem) : Ans :=
bd (f_X12_isHearer N a1 m) fun r_2 m_2 =>
if r_2 = 0 then (some (0, m_2))
else (bd (f_X12_isGloved N a1 m_2) fun r_10 m_10 =>
if r_10 = a2 then (some (0, m_10))
else (bd (f_X12_keeps N m_10) fun _ m_20 =>
bnd (mset m_20 124 8 ((m_20 124 8) ^^^ ((1 : Int32) <<< (a1 &&& 31)))) fun m_35 =>
if a2 = 0 then (bd (f_X12_notes N 4 a1 0 m_35) fun _ m_48 =>
some (1, m_48))
else (bd (f_X12_notes N 4 a1 1 m_35) fun _ m_48 =>
some (1, m_48))))

def f_X12_let (N : Nat) (a1 : Int32) (a2 : Int32) (m : Mem) : Ans :=
bd (f_X12_isHearer N a1 m) fun r_2 m_2 =>
if r_2 = 0 then (some (0, m_2))
else (bd (f_X12_isThere N a1 m_2) fun r_10 m_10 =>
if r_10 = a2 then (some (0, m_10))
else (bd (f_X12_keeps N m_10) fun _ m_20 =>
bnd (mset m_20 124 7 ((m_20 124 7) ^^^ ((1 : Int32) <<< (a1 &&& 31)))) fun m_35 =>
if a2 = 0 then (bd (f_X12_notes N 5 a1 0 m_35) fun _ m_48 =>
some (1, m_48))
else (bd (f_X12_notes N 5 a1 1 m_35) fun _ m_48 =>
some (1, m_48))))

def f_X12_anEvening_L25 (N : Nat)    (X : Int32 → Int32 → Mem → Ans) (s1_25 : Int32) (s2_25 : Int32) (m : Mem) : Ans :=
if (m 124 42) ≤ s2_25 then (bnd (mset m 124 1 ((m 124 1) + (1 : Int32))) fun m_112 =>
some (s1_25, m_112))
else (chk (inb ((153 : Int32) + ((2 : Int32) * s2_25)) 1707) <|
bd (f_X12_greater N (m 124 0) (m 124 ((153 : Int32) + ((2 : Int32) * s2_25)).toNatClampNeg) m) fun r_59 m_59 =>
bnd (mset m_59 124 0 r_59) fun m_62 =>
bd (f_X12_endsAt N m_62) fun r_70 m_70 =>
if r_70 ≤ (m_62 124 0) then (X s1_25 (s2_25 + 1) m_70)
else (chk (inb (((153 : Int32) + ((2 : Int32) * s2_25)) + (1 : Int32)) 1707) <|
bd (f_X12_does N (m_70 124 (((153 : Int32) + ((2 : Int32) * s2_25)) + (1 : Int32)).toNatClampNeg) m_70) fun r_92 m_92 =>
bnd (s1_25 + r_92) fun a1_96 =>
X a1_96 (s2_25 + 1) m_92))

def f_X12_anEvening (N : Nat)  (m : Mem) : Ans :=
bnd (mset m 124 0 0) fun m_6 =>
bnd (mset m_6 124 3 (-1)) fun m_13 =>
bnd (mset m_13 124 4 0) fun m_20 =>
it2 (f_X12_anEvening_L25 N ) N 0 0 m_20

def f_X12_evenings_L30 (N : Nat) (a1 : Int32)   (X : Int32 → Int32 → Mem → Ans) (s2_30 : Int32) (s3_30 : Int32) (m : Mem) : Ans :=
if a1 ≤ s3_30 then (some (s2_30, m))
else (bd (f_X12_keeps N m) fun _ m_36 =>
bd (f_X12_anEvening N m_36) fun r_41 m_41 =>
bnd (s2_30 + r_41) fun a2_45 =>
X a2_45 (s3_30 + 1) m_41)

def f_X12_evenings (N : Nat) (a1 : Int32) (m : Mem) : Ans :=
bd (f_X12_isIn N a1 1 20 m) fun r_4 m_4 =>
if r_4 = 0 then (some ((-1), m_4))
else (if ((m_4 124 1) + a1) ≤ (9999 : Int32) then (it2 (f_X12_evenings_L30 N a1 ) N 0 0 m_4)
else (some ((-1), m_4)))

def f_X12_of (N : Nat) (a1 : Int32) (a2 : Int32) (m : Mem) : Ans :=
bd (f_X12_isHearer N a1 m) fun r_2 m_2 =>
if r_2 = 0 then (some ((-1), m_2))
else (swt (Int32.toInt a2 - (3)) [(bd (f_X12_isThere N a1 m_2) fun r_46 m_46 =>
if r_46 = 0 then (some (0, m_46))
else (some (1, m_46))),
(bd (f_X12_isGloved N a1 m_2) fun r_60 m_60 =>
if r_60 = 0 then (some (0, m_60))
else (some (1, m_60))),
(chk (inb ((9 : Int32) + a1) 1707) <|
some (m_2 124 ((9 : Int32) + a1).toNatClampNeg, m_2)),
(chk (inb ((185 : Int32) + a1) 1707) <|
some (m_2 124 ((185 : Int32) + a1).toNatClampNeg, m_2)),
(bd (f_X12_countsAs N a1 m_2) fun r_95 m_95 =>
some (r_95, m_95))] (bd (f_X12_isIn N a2 0 2 m_2) fun r_102 m_102 =>
if r_102 = 0 then (bd (f_X12_isDeed N (a2 - (10 : Int32)) m_102) fun r_128 m_128 =>
if r_128 = 0 then (some ((-1), m_128))
else (bd (f_X12_clapOf N a1 (a2 - (10 : Int32)) 0 m_128) fun r_141 m_141 =>
some (r_141, m_141)))
else (chk (inb (((45 : Int32) + ((12 : Int32) * a2)) + a1) 1707) <|
some (m_102 124 (((45 : Int32) + ((12 : Int32) * a2)) + a1).toNatClampNeg, m_102))))

def f_X12_deedOf (N : Nat) (a1 : Int32) (a2 : Int32) (m : Mem) : Ans :=
bd (f_X12_isDeed N a1 m) fun r_2 m_2 =>
if r_2 = 0 then (some ((-1), m_2))
else (swt (Int32.toInt a2 - (0)) [(chk (inb ((81 : Int32) + a1) 1707) <|
some (m_2 124 ((81 : Int32) + a1).toNatClampNeg, m_2)),
(chk (inb ((89 : Int32) + a1) 1707) <|
some (m_2 124 ((89 : Int32) + a1).toNatClampNeg, m_2)),
(chk (inb ((97 : Int32) + a1) 1707) <|
some (m_2 124 ((97 : Int32) + a1).toNatClampNeg, m_2)),
(chk (inb ((21 : Int32) + a1) 1707) <|
some (m_2 124 ((21 : Int32) + a1).toNatClampNeg, m_2)),
(chk (inb ((29 : Int32) + a1) 1707) <|
some (m_2 124 ((29 : Int32) + a1).toNatClampNeg, m_2)),
(bd (f_X12_loudOf N a1 m_2) fun r_104 m_104 =>
some (r_104, m_104)),
(bd (f_X12_wearsOf N a1 m_2) fun r_110 m_110 =>
some (r_110, m_110))] (some ((-1), m_2)))

def f_X12_statute (N : Nat) (a1 : Int32) (m : Mem) : Ans :=
if a1 = 0 then (bd (f_X12_handsAsked N m) fun r_5 m_5 =>
some (r_5, m_5))
else (if a1 = (1 : Int32) then (bd (f_X12_mostAgains N m) fun r_17 m_17 =>
some (r_17, m_17))
else (if a1 = (2 : Int32) then (bd (f_X12_endsAt N m) fun r_29 m_29 =>
some (r_29, m_29))
else (some ((-1), m))))

def f_X12_book (N : Nat) (a1 : Int32) (a2 : Int32) (m : Mem) : Ans :=
bd (f_X12_isIn N a1 0 ((m 124 6) - (1 : Int32)) m) fun r_11 m_11 =>
if r_11 = 0 then (some ((-1), m_11))
else (bd (f_X12_isIn N a2 0 3 m_11) fun r_20 m_20 =>
if r_20 = 0 then (some ((-1), m_20))
else (chk (inb (((223 : Int32) + ((4 : Int32) * a1)) + a2) 1707) <|
some (m_20 124 (((223 : Int32) + ((4 : Int32) * a1)) + a2).toNatClampNeg, m_20)))

def f_X12_look (N : Nat) (a1 : Int32) (m : Mem) : Ans :=
swt (Int32.toInt a1 - (0)) [(some (m 124 37, m)),
(some (m 124 38, m)),
(some (m 124 0, m)),
(some (m 124 1, m)),
(some (m 124 2, m)),
(some (m 124 39, m)),
(some (m 124 3, m)),
(some (m 124 4, m)),
(some (m 124 7, m)),
(some (m 124 6, m)),
(some (m 124 5, m)),
(some (m 124 40, m)),
(some (m 124 41, m)),
(some (m 124 42, m)),
(some (m 124 43, m)),
(some (m 124 44, m)),
(some (m 123 4, m))] (some ((-100000), m))
