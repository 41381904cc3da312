def GL : List Cond := [Jvm.Cond.count (1 : Nat),
 Jvm.Cond.isRef (Jvm.Term.arg (0 : Nat)),
 Jvm.Cond.arrayOf (Jvm.Term.arg (0 : Nat)) Jvm.ClassFile.FieldType.int,
 Jvm.Cond.le (Jvm.Term.length (Jvm.Term.arg (0 : Nat))) (Jvm.Term.int (260 : Int32)),
 Jvm.Cond.eq (Jvm.Term.static "java/lang/String" "COMPACT_STRINGS" "Z") (Jvm.Term.int (1 : Int32)),
 Jvm.Cond.isRef (Jvm.Term.static "jdk/internal/util/Preconditions" "SIOOBE_FORMATTER" "Ljava/util/function/BiFunction;"),
 Jvm.Cond.eq (Jvm.Term.static "java/lang/StringUTF16" "$assertionsDisabled" "Z") (Jvm.Term.int (1 : Int32)),
 Jvm.Cond.eq (Jvm.Term.static "java/lang/StringUTF16" "HI_BYTE_SHIFT" "I") (Jvm.Term.int (0 : Int32)),
 Jvm.Cond.eq (Jvm.Term.static "java/lang/StringUTF16" "LO_BYTE_SHIFT" "I") (Jvm.Term.int (8 : Int32)),
 Jvm.Cond.isRef (Jvm.Term.static "java/lang/Integer" "DigitOnes" "[B"),
 Jvm.Cond.arrayOf (Jvm.Term.static "java/lang/Integer" "DigitOnes" "[B") Jvm.ClassFile.FieldType.byte,
 Jvm.Cond.eq (Jvm.Term.length (Jvm.Term.static "java/lang/Integer" "DigitOnes" "[B")) (Jvm.Term.int (100 : Int32)),
 Jvm.Cond.eq (Jvm.Term.elem (Jvm.Term.static "java/lang/Integer" "DigitOnes" "[B") (Jvm.Term.int (0 : Int32))) (Jvm.Term.int (48 : Int32)),
 Jvm.Cond.eq (Jvm.Term.elem (Jvm.Term.static "java/lang/Integer" "DigitOnes" "[B") (Jvm.Term.int (1 : Int32))) (Jvm.Term.int (49 : Int32)),
 Jvm.Cond.eq (Jvm.Term.elem (Jvm.Term.static "java/lang/Integer" "DigitOnes" "[B") (Jvm.Term.int (2 : Int32))) (Jvm.Term.int (50 : Int32)),
 Jvm.Cond.eq (Jvm.Term.elem (Jvm.Term.static "java/lang/Integer" "DigitOnes" "[B") (Jvm.Term.int (3 : Int32))) (Jvm.Term.int (51 : Int32)),
 Jvm.Cond.eq (Jvm.Term.elem (Jvm.Term.static "java/lang/Integer" "DigitOnes" "[B") (Jvm.Term.int (4 : Int32))) (Jvm.Term.int (52 : Int32)),
 Jvm.Cond.eq (Jvm.Term.elem (Jvm.Term.static "java/lang/Integer" "DigitOnes" "[B") (Jvm.Term.int (5 : Int32))) (Jvm.Term.int (53 : Int32)),
 Jvm.Cond.eq (Jvm.Term.elem (Jvm.Term.static "java/lang/Integer" "DigitOnes" "[B") (Jvm.Term.int (6 : Int32))) (Jvm.Term.int (54 : Int32)),
 Jvm.Cond.eq (Jvm.Term.elem (Jvm.Term.static "java/lang/Integer" "DigitOnes" "[B") (Jvm.Term.int (7 : Int32))) (Jvm.Term.int (55 : Int32)),
 Jvm.Cond.eq (Jvm.Term.elem (Jvm.Term.static "java/lang/Integer" "DigitOnes" "[B") (Jvm.Term.int (8 : Int32))) (Jvm.Term.int (56 : Int32)),
 Jvm.Cond.eq (Jvm.Term.elem (Jvm.Term.static "java/lang/Integer" "DigitOnes" "[B") (Jvm.Term.int (9 : Int32))) (Jvm.Term.int (57 : Int32)),
 Jvm.Cond.eq (Jvm.Term.elem (Jvm.Term.static "java/lang/Integer" "DigitOnes" "[B") (Jvm.Term.int (10 : Int32))) (Jvm.Term.int (48 : Int32)),
 Jvm.Cond.eq (Jvm.Term.elem (Jvm.Term.static "java/lang/Integer" "DigitOnes" "[B") (Jvm.Term.int (11 : Int32))) (Jvm.Term.int (49 : Int32)),
 Jvm.Cond.eq (Jvm.Term.elem (Jvm.Term.static "java/lang/Integer" "DigitOnes" "[B") (Jvm.Term.int (12 : Int32))) (Jvm.Term.int (50 : Int32)),
 Jvm.Cond.eq (Jvm.Term.elem (Jvm.Term.static "java/lang/Integer" "DigitOnes" "[B") (Jvm.Term.int (13 : Int32))) (Jvm.Term.int (51 : Int32)),
 Jvm.Cond.eq (Jvm.Term.elem (Jvm.Term.static "java/lang/Integer" "DigitOnes" "[B") (Jvm.Term.int (14 : Int32))) (Jvm.Term.int (52 : Int32)),
 Jvm.Cond.eq (Jvm.Term.elem (Jvm.Term.static "java/lang/Integer" "DigitOnes" "[B") (Jvm.Term.int (15 : Int32))) (Jvm.Term.int (53 : Int32)),
 Jvm.Cond.eq (Jvm.Term.elem (Jvm.Term.static "java/lang/Integer" "DigitOnes" "[B") (Jvm.Term.int (16 : Int32))) (Jvm.Term.int (54 : Int32)),
 Jvm.Cond.eq (Jvm.Term.elem (Jvm.Term.static "java/lang/Integer" "DigitOnes" "[B") (Jvm.Term.int (17 : Int32))) (Jvm.Term.int (55 : Int32)),
 Jvm.Cond.eq (Jvm.Term.elem (Jvm.Term.static "java/lang/Integer" "DigitOnes" "[B") (Jvm.Term.int (18 : Int32))) (Jvm.Term.int (56 : Int32)),
 Jvm.Cond.eq (Jvm.Term.elem (Jvm.Term.static "java/lang/Integer" "DigitOnes" "[B") (Jvm.Term.int (19 : Int32))) (Jvm.Term.int (57 : Int32)),
 Jvm.Cond.eq (Jvm.Term.elem (Jvm.Term.static "java/lang/Integer" "DigitOnes" "[B") (Jvm.Term.int (20 : Int32))) (Jvm.Term.int (48 : Int32)),
 Jvm.Cond.eq (Jvm.Term.elem (Jvm.Term.static "java/lang/Integer" "DigitOnes" "[B") (Jvm.Term.int (21 : Int32))) (Jvm.Term.int (49 : Int32)),
 Jvm.Cond.eq (Jvm.Term.elem (Jvm.Term.static "java/lang/Integer" "DigitOnes" "[B") (Jvm.Term.int (22 : Int32))) (Jvm.Term.int (50 : Int32)),
 Jvm.Cond.eq (Jvm.Term.elem (Jvm.Term.static "java/lang/Integer" "DigitOnes" "[B") (Jvm.Term.int (23 : Int32))) (Jvm.Term.int (51 : Int32)),
 Jvm.Cond.eq (Jvm.Term.elem (Jvm.Term.static "java/lang/Integer" "DigitOnes" "[B") (Jvm.Term.int (24 : Int32))) (Jvm.Term.int (52 : Int32)),
 Jvm.Cond.eq (Jvm.Term.elem (Jvm.Term.static "java/lang/Integer" "DigitOnes" "[B") (Jvm.Term.int (25 : Int32))) (Jvm.Term.int (53 : Int32)),
 Jvm.Cond.eq (Jvm.Term.elem (Jvm.Term.static "java/lang/Integer" "DigitOnes" "[B") (Jvm.Term.int (26 : Int32))) (Jvm.Term.int (54 : Int32)),
 Jvm.Cond.eq (Jvm.Term.elem (Jvm.Term.static "java/lang/Integer" "DigitOnes" "[B") (Jvm.Term.int (27 : Int32))) (Jvm.Term.int (55 : Int32)),
 Jvm.Cond.eq (Jvm.Term.elem (Jvm.Term.static "java/lang/Integer" "DigitOnes" "[B") (Jvm.Term.int (28 : Int32))) (Jvm.Term.int (56 : Int32)),
 Jvm.Cond.eq (Jvm.Term.elem (Jvm.Term.static "java/lang/Integer" "DigitOnes" "[B") (Jvm.Term.int (29 : Int32))) (Jvm.Term.int (57 : Int32)),
 Jvm.Cond.eq (Jvm.Term.elem (Jvm.Term.static "java/lang/Integer" "DigitOnes" "[B") (Jvm.Term.int (30 : Int32))) (Jvm.Term.int (48 : Int32)),
 Jvm.Cond.eq (Jvm.Term.elem (Jvm.Term.static "java/lang/Integer" "DigitOnes" "[B") (Jvm.Term.int (31 : Int32))) (Jvm.Term.int (49 : Int32)),
 Jvm.Cond.eq (Jvm.Term.elem (Jvm.Term.static "java/lang/Integer" "DigitOnes" "[B") (Jvm.Term.int (32 : Int32))) (Jvm.Term.int (50 : Int32)),
 Jvm.Cond.eq (Jvm.Term.elem (Jvm.Term.static "java/lang/Integer" "DigitOnes" "[B") (Jvm.Term.int (33 : Int32))) (Jvm.Term.int (51 : Int32)),
 Jvm.Cond.eq (Jvm.Term.elem (Jvm.Term.static "java/lang/Integer" "DigitOnes" "[B") (Jvm.Term.int (34 : Int32))) (Jvm.Term.int (52 : Int32)),
 Jvm.Cond.eq (Jvm.Term.elem (Jvm.Term.static "java/lang/Integer" "DigitOnes" "[B") (Jvm.Term.int (35 : Int32))) (Jvm.Term.int (53 : Int32)),
 Jvm.Cond.eq (Jvm.Term.elem (Jvm.Term.static "java/lang/Integer" "DigitOnes" "[B") (Jvm.Term.int (36 : Int32))) (Jvm.Term.int (54 : Int32)),
 Jvm.Cond.eq (Jvm.Term.elem (Jvm.Term.static "java/lang/Integer" "DigitOnes" "[B") (Jvm.Term.int (37 : Int32))) (Jvm.Term.int (55 : Int32)),
 Jvm.Cond.eq (Jvm.Term.elem (Jvm.Term.static "java/lang/Integer" "DigitOnes" "[B") (Jvm.Term.int (38 : Int32))) (Jvm.Term.int (56 : Int32)),
 Jvm.Cond.eq (Jvm.Term.elem (Jvm.Term.static "java/lang/Integer" "DigitOnes" "[B") (Jvm.Term.int (39 : Int32))) (Jvm.Term.int (57 : Int32)),
 Jvm.Cond.eq (Jvm.Term.elem (Jvm.Term.static "java/lang/Integer" "DigitOnes" "[B") (Jvm.Term.int (40 : Int32))) (Jvm.Term.int (48 : Int32)),
 Jvm.Cond.eq (Jvm.Term.elem (Jvm.Term.static "java/lang/Integer" "DigitOnes" "[B") (Jvm.Term.int (41 : Int32))) (Jvm.Term.int (49 : Int32)),
 Jvm.Cond.eq (Jvm.Term.elem (Jvm.Term.static "java/lang/Integer" "DigitOnes" "[B") (Jvm.Term.int (42 : Int32))) (Jvm.Term.int (50 : Int32)),
 Jvm.Cond.eq (Jvm.Term.elem (Jvm.Term.static "java/lang/Integer" "DigitOnes" "[B") (Jvm.Term.int (43 : Int32))) (Jvm.Term.int (51 : Int32)),
 Jvm.Cond.eq (Jvm.Term.elem (Jvm.Term.static "java/lang/Integer" "DigitOnes" "[B") (Jvm.Term.int (44 : Int32))) (Jvm.Term.int (52 : Int32)),
 Jvm.Cond.eq (Jvm.Term.elem (Jvm.Term.static "java/lang/Integer" "DigitOnes" "[B") (Jvm.Term.int (45 : Int32))) (Jvm.Term.int (53 : Int32)),
 Jvm.Cond.eq (Jvm.Term.elem (Jvm.Term.static "java/lang/Integer" "DigitOnes" "[B") (Jvm.Term.int (46 : Int32))) (Jvm.Term.int (54 : Int32)),
 Jvm.Cond.eq (Jvm.Term.elem (Jvm.Term.static "java/lang/Integer" "DigitOnes" "[B") (Jvm.Term.int (47 : Int32))) (Jvm.Term.int (55 : Int32)),
 Jvm.Cond.eq (Jvm.Term.elem (Jvm.Term.static "java/lang/Integer" "DigitOnes" "[B") (Jvm.Term.int (48 : Int32))) (Jvm.Term.int (56 : Int32)),
 Jvm.Cond.eq (Jvm.Term.elem (Jvm.Term.static "java/lang/Integer" "DigitOnes" "[B") (Jvm.Term.int (49 : Int32))) (Jvm.Term.int (57 : Int32)),
 Jvm.Cond.eq (Jvm.Term.elem (Jvm.Term.static "java/lang/Integer" "DigitOnes" "[B") (Jvm.Term.int (50 : Int32))) (Jvm.Term.int (48 : Int32)),
 Jvm.Cond.eq (Jvm.Term.elem (Jvm.Term.static "java/lang/Integer" "DigitOnes" "[B") (Jvm.Term.int (51 : Int32))) (Jvm.Term.int (49 : Int32)),
 Jvm.Cond.eq (Jvm.Term.elem (Jvm.Term.static "java/lang/Integer" "DigitOnes" "[B") (Jvm.Term.int (52 : Int32))) (Jvm.Term.int (50 : Int32)),
 Jvm.Cond.eq (Jvm.Term.elem (Jvm.Term.static "java/lang/Integer" "DigitOnes" "[B") (Jvm.Term.int (53 : Int32))) (Jvm.Term.int (51 : Int32)),
 Jvm.Cond.eq (Jvm.Term.elem (Jvm.Term.static "java/lang/Integer" "DigitOnes" "[B") (Jvm.Term.int (54 : Int32))) (Jvm.Term.int (52 : Int32)),
 Jvm.Cond.eq (Jvm.Term.elem (Jvm.Term.static "java/lang/Integer" "DigitOnes" "[B") (Jvm.Term.int (55 : Int32))) (Jvm.Term.int (53 : Int32)),
 Jvm.Cond.eq (Jvm.Term.elem (Jvm.Term.static "java/lang/Integer" "DigitOnes" "[B") (Jvm.Term.int (56 : Int32))) (Jvm.Term.int (54 : Int32)),
 Jvm.Cond.eq (Jvm.Term.elem (Jvm.Term.static "java/lang/Integer" "DigitOnes" "[B") (Jvm.Term.int (57 : Int32))) (Jvm.Term.int (55 : Int32)),
 Jvm.Cond.eq (Jvm.Term.elem (Jvm.Term.static "java/lang/Integer" "DigitOnes" "[B") (Jvm.Term.int (58 : Int32))) (Jvm.Term.int (56 : Int32)),
 Jvm.Cond.eq (Jvm.Term.elem (Jvm.Term.static "java/lang/Integer" "DigitOnes" "[B") (Jvm.Term.int (59 : Int32))) (Jvm.Term.int (57 : Int32)),
 Jvm.Cond.eq (Jvm.Term.elem (Jvm.Term.static "java/lang/Integer" "DigitOnes" "[B") (Jvm.Term.int (60 : Int32))) (Jvm.Term.int (48 : Int32)),
 Jvm.Cond.eq (Jvm.Term.elem (Jvm.Term.static "java/lang/Integer" "DigitOnes" "[B") (Jvm.Term.int (61 : Int32))) (Jvm.Term.int (49 : Int32)),
 Jvm.Cond.eq (Jvm.Term.elem (Jvm.Term.static "java/lang/Integer" "DigitOnes" "[B") (Jvm.Term.int (62 : Int32))) (Jvm.Term.int (50 : Int32)),
 Jvm.Cond.eq (Jvm.Term.elem (Jvm.Term.static "java/lang/Integer" "DigitOnes" "[B") (Jvm.Term.int (63 : Int32))) (Jvm.Term.int (51 : Int32)),
 Jvm.Cond.eq (Jvm.Term.elem (Jvm.Term.static "java/lang/Integer" "DigitOnes" "[B") (Jvm.Term.int (64 : Int32))) (Jvm.Term.int (52 : Int32)),
 Jvm.Cond.eq (Jvm.Term.elem (Jvm.Term.static "java/lang/Integer" "DigitOnes" "[B") (Jvm.Term.int (65 : Int32))) (Jvm.Term.int (53 : Int32)),
 Jvm.Cond.eq (Jvm.Term.elem (Jvm.Term.static "java/lang/Integer" "DigitOnes" "[B") (Jvm.Term.int (66 : Int32))) (Jvm.Term.int (54 : Int32)),
 Jvm.Cond.eq (Jvm.Term.elem (Jvm.Term.static "java/lang/Integer" "DigitOnes" "[B") (Jvm.Term.int (67 : Int32))) (Jvm.Term.int (55 : Int32)),
 Jvm.Cond.eq (Jvm.Term.elem (Jvm.Term.static "java/lang/Integer" "DigitOnes" "[B") (Jvm.Term.int (68 : Int32))) (Jvm.Term.int (56 : Int32)),
 Jvm.Cond.eq (Jvm.Term.elem (Jvm.Term.static "java/lang/Integer" "DigitOnes" "[B") (Jvm.Term.int (69 : Int32))) (Jvm.Term.int (57 : Int32)),
 Jvm.Cond.eq (Jvm.Term.elem (Jvm.Term.static "java/lang/Integer" "DigitOnes" "[B") (Jvm.Term.int (70 : Int32))) (Jvm.Term.int (48 : Int32)),
 Jvm.Cond.eq (Jvm.Term.elem (Jvm.Term.static "java/lang/Integer" "DigitOnes" "[B") (Jvm.Term.int (71 : Int32))) (Jvm.Term.int (49 : Int32)),
 Jvm.Cond.eq (Jvm.Term.elem (Jvm.Term.static "java/lang/Integer" "DigitOnes" "[B") (Jvm.Term.int (72 : Int32))) (Jvm.Term.int (50 : Int32)),
 Jvm.Cond.eq (Jvm.Term.elem (Jvm.Term.static "java/lang/Integer" "DigitOnes" "[B") (Jvm.Term.int (73 : Int32))) (Jvm.Term.int (51 : Int32)),
 Jvm.Cond.eq (Jvm.Term.elem (Jvm.Term.static "java/lang/Integer" "DigitOnes" "[B") (Jvm.Term.int (74 : Int32))) (Jvm.Term.int (52 : Int32)),
 Jvm.Cond.eq (Jvm.Term.elem (Jvm.Term.static "java/lang/Integer" "DigitOnes" "[B") (Jvm.Term.int (75 : Int32))) (Jvm.Term.int (53 : Int32)),
 Jvm.Cond.eq (Jvm.Term.elem (Jvm.Term.static "java/lang/Integer" "DigitOnes" "[B") (Jvm.Term.int (76 : Int32))) (Jvm.Term.int (54 : Int32)),
 Jvm.Cond.eq (Jvm.Term.elem (Jvm.Term.static "java/lang/Integer" "DigitOnes" "[B") (Jvm.Term.int (77 : Int32))) (Jvm.Term.int (55 : Int32)),
 Jvm.Cond.eq (Jvm.Term.elem (Jvm.Term.static "java/lang/Integer" "DigitOnes" "[B") (Jvm.Term.int (78 : Int32))) (Jvm.Term.int (56 : Int32)),
 Jvm.Cond.eq (Jvm.Term.elem (Jvm.Term.static "java/lang/Integer" "DigitOnes" "[B") (Jvm.Term.int (79 : Int32))) (Jvm.Term.int (57 : Int32)),
 Jvm.Cond.eq (Jvm.Term.elem (Jvm.Term.static "java/lang/Integer" "DigitOnes" "[B") (Jvm.Term.int (80 : Int32))) (Jvm.Term.int (48 : Int32)),
 Jvm.Cond.eq (Jvm.Term.elem (Jvm.Term.static "java/lang/Integer" "DigitOnes" "[B") (Jvm.Term.int (81 : Int32))) (Jvm.Term.int (49 : Int32)),
 Jvm.Cond.eq (Jvm.Term.elem (Jvm.Term.static "java/lang/Integer" "DigitOnes" "[B") (Jvm.Term.int (82 : Int32))) (Jvm.Term.int (50 : Int32)),
 Jvm.Cond.eq (Jvm.Term.elem (Jvm.Term.static "java/lang/Integer" "DigitOnes" "[B") (Jvm.Term.int (83 : Int32))) (Jvm.Term.int (51 : Int32)),
 Jvm.Cond.eq (Jvm.Term.elem (Jvm.Term.static "java/lang/Integer" "DigitOnes" "[B") (Jvm.Term.int (84 : Int32))) (Jvm.Term.int (52 : Int32)),
 Jvm.Cond.eq (Jvm.Term.elem (Jvm.Term.static "java/lang/Integer" "DigitOnes" "[B") (Jvm.Term.int (85 : Int32))) (Jvm.Term.int (53 : Int32)),
 Jvm.Cond.eq (Jvm.Term.elem (Jvm.Term.static "java/lang/Integer" "DigitOnes" "[B") (Jvm.Term.int (86 : Int32))) (Jvm.Term.int (54 : Int32)),
 Jvm.Cond.eq (Jvm.Term.elem (Jvm.Term.static "java/lang/Integer" "DigitOnes" "[B") (Jvm.Term.int (87 : Int32))) (Jvm.Term.int (55 : Int32)),
 Jvm.Cond.eq (Jvm.Term.elem (Jvm.Term.static "java/lang/Integer" "DigitOnes" "[B") (Jvm.Term.int (88 : Int32))) (Jvm.Term.int (56 : Int32)),
 Jvm.Cond.eq (Jvm.Term.elem (Jvm.Term.static "java/lang/Integer" "DigitOnes" "[B") (Jvm.Term.int (89 : Int32))) (Jvm.Term.int (57 : Int32)),
 Jvm.Cond.eq (Jvm.Term.elem (Jvm.Term.static "java/lang/Integer" "DigitOnes" "[B") (Jvm.Term.int (90 : Int32))) (Jvm.Term.int (48 : Int32)),
 Jvm.Cond.eq (Jvm.Term.elem (Jvm.Term.static "java/lang/Integer" "DigitOnes" "[B") (Jvm.Term.int (91 : Int32))) (Jvm.Term.int (49 : Int32)),
 Jvm.Cond.eq (Jvm.Term.elem (Jvm.Term.static "java/lang/Integer" "DigitOnes" "[B") (Jvm.Term.int (92 : Int32))) (Jvm.Term.int (50 : Int32)),
 Jvm.Cond.eq (Jvm.Term.elem (Jvm.Term.static "java/lang/Integer" "DigitOnes" "[B") (Jvm.Term.int (93 : Int32))) (Jvm.Term.int (51 : Int32)),
 Jvm.Cond.eq (Jvm.Term.elem (Jvm.Term.static "java/lang/Integer" "DigitOnes" "[B") (Jvm.Term.int (94 : Int32))) (Jvm.Term.int (52 : Int32)),
 Jvm.Cond.eq (Jvm.Term.elem (Jvm.Term.static "java/lang/Integer" "DigitOnes" "[B") (Jvm.Term.int (95 : Int32))) (Jvm.Term.int (53 : Int32)),
 Jvm.Cond.eq (Jvm.Term.elem (Jvm.Term.static "java/lang/Integer" "DigitOnes" "[B") (Jvm.Term.int (96 : Int32))) (Jvm.Term.int (54 : Int32)),
 Jvm.Cond.eq (Jvm.Term.elem (Jvm.Term.static "java/lang/Integer" "DigitOnes" "[B") (Jvm.Term.int (97 : Int32))) (Jvm.Term.int (55 : Int32)),
 Jvm.Cond.eq (Jvm.Term.elem (Jvm.Term.static "java/lang/Integer" "DigitOnes" "[B") (Jvm.Term.int (98 : Int32))) (Jvm.Term.int (56 : Int32)),
 Jvm.Cond.eq (Jvm.Term.elem (Jvm.Term.static "java/lang/Integer" "DigitOnes" "[B") (Jvm.Term.int (99 : Int32))) (Jvm.Term.int (57 : Int32)),
 Jvm.Cond.isRef (Jvm.Term.static "java/lang/Integer" "DigitTens" "[B"),
 Jvm.Cond.arrayOf (Jvm.Term.static "java/lang/Integer" "DigitTens" "[B") Jvm.ClassFile.FieldType.byte,
 Jvm.Cond.eq (Jvm.Term.length (Jvm.Term.static "java/lang/Integer" "DigitTens" "[B")) (Jvm.Term.int (100 : Int32)),
 Jvm.Cond.eq (Jvm.Term.elem (Jvm.Term.static "java/lang/Integer" "DigitTens" "[B") (Jvm.Term.int (0 : Int32))) (Jvm.Term.int (48 : Int32)),
 Jvm.Cond.eq (Jvm.Term.elem (Jvm.Term.static "java/lang/Integer" "DigitTens" "[B") (Jvm.Term.int (1 : Int32))) (Jvm.Term.int (48 : Int32)),
 Jvm.Cond.eq (Jvm.Term.elem (Jvm.Term.static "java/lang/Integer" "DigitTens" "[B") (Jvm.Term.int (2 : Int32))) (Jvm.Term.int (48 : Int32)),
 Jvm.Cond.eq (Jvm.Term.elem (Jvm.Term.static "java/lang/Integer" "DigitTens" "[B") (Jvm.Term.int (3 : Int32))) (Jvm.Term.int (48 : Int32)),
 Jvm.Cond.eq (Jvm.Term.elem (Jvm.Term.static "java/lang/Integer" "DigitTens" "[B") (Jvm.Term.int (4 : Int32))) (Jvm.Term.int (48 : Int32)),
 Jvm.Cond.eq (Jvm.Term.elem (Jvm.Term.static "java/lang/Integer" "DigitTens" "[B") (Jvm.Term.int (5 : Int32))) (Jvm.Term.int (48 : Int32)),
 Jvm.Cond.eq (Jvm.Term.elem (Jvm.Term.static "java/lang/Integer" "DigitTens" "[B") (Jvm.Term.int (6 : Int32))) (Jvm.Term.int (48 : Int32)),
 Jvm.Cond.eq (Jvm.Term.elem (Jvm.Term.static "java/lang/Integer" "DigitTens" "[B") (Jvm.Term.int (7 : Int32))) (Jvm.Term.int (48 : Int32)),
 Jvm.Cond.eq (Jvm.Term.elem (Jvm.Term.static "java/lang/Integer" "DigitTens" "[B") (Jvm.Term.int (8 : Int32))) (Jvm.Term.int (48 : Int32)),
 Jvm.Cond.eq (Jvm.Term.elem (Jvm.Term.static "java/lang/Integer" "DigitTens" "[B") (Jvm.Term.int (9 : Int32))) (Jvm.Term.int (48 : Int32)),
 Jvm.Cond.eq (Jvm.Term.elem (Jvm.Term.static "java/lang/Integer" "DigitTens" "[B") (Jvm.Term.int (10 : Int32))) (Jvm.Term.int (49 : Int32)),
 Jvm.Cond.eq (Jvm.Term.elem (Jvm.Term.static "java/lang/Integer" "DigitTens" "[B") (Jvm.Term.int (11 : Int32))) (Jvm.Term.int (49 : Int32)),
 Jvm.Cond.eq (Jvm.Term.elem (Jvm.Term.static "java/lang/Integer" "DigitTens" "[B") (Jvm.Term.int (12 : Int32))) (Jvm.Term.int (49 : Int32)),
 Jvm.Cond.eq (Jvm.Term.elem (Jvm.Term.static "java/lang/Integer" "DigitTens" "[B") (Jvm.Term.int (13 : Int32))) (Jvm.Term.int (49 : Int32)),
 Jvm.Cond.eq (Jvm.Term.elem (Jvm.Term.static "java/lang/Integer" "DigitTens" "[B") (Jvm.Term.int (14 : Int32))) (Jvm.Term.int (49 : Int32)),
 Jvm.Cond.eq (Jvm.Term.elem (Jvm.Term.static "java/lang/Integer" "DigitTens" "[B") (Jvm.Term.int (15 : Int32))) (Jvm.Term.int (49 : Int32)),
 Jvm.Cond.eq (Jvm.Term.elem (Jvm.Term.static "java/lang/Integer" "DigitTens" "[B") (Jvm.Term.int (16 : Int32))) (Jvm.Term.int (49 : Int32)),
 Jvm.Cond.eq (Jvm.Term.elem (Jvm.Term.static "java/lang/Integer" "DigitTens" "[B") (Jvm.Term.int (17 : Int32))) (Jvm.Term.int (49 : Int32)),
 Jvm.Cond.eq (Jvm.Term.elem (Jvm.Term.static "java/lang/Integer" "DigitTens" "[B") (Jvm.Term.int (18 : Int32))) (Jvm.Term.int (49 : Int32)),
 Jvm.Cond.eq (Jvm.Term.elem (Jvm.Term.static "java/lang/Integer" "DigitTens" "[B") (Jvm.Term.int (19 : Int32))) (Jvm.Term.int (49 : Int32)),
 Jvm.Cond.eq (Jvm.Term.elem (Jvm.Term.static "java/lang/Integer" "DigitTens" "[B") (Jvm.Term.int (20 : Int32))) (Jvm.Term.int (50 : Int32)),
 Jvm.Cond.eq (Jvm.Term.elem (Jvm.Term.static "java/lang/Integer" "DigitTens" "[B") (Jvm.Term.int (21 : Int32))) (Jvm.Term.int (50 : Int32)),
 Jvm.Cond.eq (Jvm.Term.elem (Jvm.Term.static "java/lang/Integer" "DigitTens" "[B") (Jvm.Term.int (22 : Int32))) (Jvm.Term.int (50 : Int32)),
 Jvm.Cond.eq (Jvm.Term.elem (Jvm.Term.static "java/lang/Integer" "DigitTens" "[B") (Jvm.Term.int (23 : Int32))) (Jvm.Term.int (50 : Int32)),
 Jvm.Cond.eq (Jvm.Term.elem (Jvm.Term.static "java/lang/Integer" "DigitTens" "[B") (Jvm.Term.int (24 : Int32))) (Jvm.Term.int (50 : Int32)),
 Jvm.Cond.eq (Jvm.Term.elem (Jvm.Term.static "java/lang/Integer" "DigitTens" "[B") (Jvm.Term.int (25 : Int32))) (Jvm.Term.int (50 : Int32)),
 Jvm.Cond.eq (Jvm.Term.elem (Jvm.Term.static "java/lang/Integer" "DigitTens" "[B") (Jvm.Term.int (26 : Int32))) (Jvm.Term.int (50 : Int32)),
 Jvm.Cond.eq (Jvm.Term.elem (Jvm.Term.static "java/lang/Integer" "DigitTens" "[B") (Jvm.Term.int (27 : Int32))) (Jvm.Term.int (50 : Int32)),
 Jvm.Cond.eq (Jvm.Term.elem (Jvm.Term.static "java/lang/Integer" "DigitTens" "[B") (Jvm.Term.int (28 : Int32))) (Jvm.Term.int (50 : Int32)),
 Jvm.Cond.eq (Jvm.Term.elem (Jvm.Term.static "java/lang/Integer" "DigitTens" "[B") (Jvm.Term.int (29 : Int32))) (Jvm.Term.int (50 : Int32)),
 Jvm.Cond.eq (Jvm.Term.elem (Jvm.Term.static "java/lang/Integer" "DigitTens" "[B") (Jvm.Term.int (30 : Int32))) (Jvm.Term.int (51 : Int32)),
 Jvm.Cond.eq (Jvm.Term.elem (Jvm.Term.static "java/lang/Integer" "DigitTens" "[B") (Jvm.Term.int (31 : Int32))) (Jvm.Term.int (51 : Int32)),
 Jvm.Cond.eq (Jvm.Term.elem (Jvm.Term.static "java/lang/Integer" "DigitTens" "[B") (Jvm.Term.int (32 : Int32))) (Jvm.Term.int (51 : Int32)),
 Jvm.Cond.eq (Jvm.Term.elem (Jvm.Term.static "java/lang/Integer" "DigitTens" "[B") (Jvm.Term.int (33 : Int32))) (Jvm.Term.int (51 : Int32)),
 Jvm.Cond.eq (Jvm.Term.elem (Jvm.Term.static "java/lang/Integer" "DigitTens" "[B") (Jvm.Term.int (34 : Int32))) (Jvm.Term.int (51 : Int32)),
 Jvm.Cond.eq (Jvm.Term.elem (Jvm.Term.static "java/lang/Integer" "DigitTens" "[B") (Jvm.Term.int (35 : Int32))) (Jvm.Term.int (51 : Int32)),
 Jvm.Cond.eq (Jvm.Term.elem (Jvm.Term.static "java/lang/Integer" "DigitTens" "[B") (Jvm.Term.int (36 : Int32))) (Jvm.Term.int (51 : Int32)),
 Jvm.Cond.eq (Jvm.Term.elem (Jvm.Term.static "java/lang/Integer" "DigitTens" "[B") (Jvm.Term.int (37 : Int32))) (Jvm.Term.int (51 : Int32)),
 Jvm.Cond.eq (Jvm.Term.elem (Jvm.Term.static "java/lang/Integer" "DigitTens" "[B") (Jvm.Term.int (38 : Int32))) (Jvm.Term.int (51 : Int32)),
 Jvm.Cond.eq (Jvm.Term.elem (Jvm.Term.static "java/lang/Integer" "DigitTens" "[B") (Jvm.Term.int (39 : Int32))) (Jvm.Term.int (51 : Int32)),
 Jvm.Cond.eq (Jvm.Term.elem (Jvm.Term.static "java/lang/Integer" "DigitTens" "[B") (Jvm.Term.int (40 : Int32))) (Jvm.Term.int (52 : Int32)),
 Jvm.Cond.eq (Jvm.Term.elem (Jvm.Term.static "java/lang/Integer" "DigitTens" "[B") (Jvm.Term.int (41 : Int32))) (Jvm.Term.int (52 : Int32)),
 Jvm.Cond.eq (Jvm.Term.elem (Jvm.Term.static "java/lang/Integer" "DigitTens" "[B") (Jvm.Term.int (42 : Int32))) (Jvm.Term.int (52 : Int32)),
 Jvm.Cond.eq (Jvm.Term.elem (Jvm.Term.static "java/lang/Integer" "DigitTens" "[B") (Jvm.Term.int (43 : Int32))) (Jvm.Term.int (52 : Int32)),
 Jvm.Cond.eq (Jvm.Term.elem (Jvm.Term.static "java/lang/Integer" "DigitTens" "[B") (Jvm.Term.int (44 : Int32))) (Jvm.Term.int (52 : Int32)),
 Jvm.Cond.eq (Jvm.Term.elem (Jvm.Term.static "java/lang/Integer" "DigitTens" "[B") (Jvm.Term.int (45 : Int32))) (Jvm.Term.int (52 : Int32)),
 Jvm.Cond.eq (Jvm.Term.elem (Jvm.Term.static "java/lang/Integer" "DigitTens" "[B") (Jvm.Term.int (46 : Int32))) (Jvm.Term.int (52 : Int32)),
 Jvm.Cond.eq (Jvm.Term.elem (Jvm.Term.static "java/lang/Integer" "DigitTens" "[B") (Jvm.Term.int (47 : Int32))) (Jvm.Term.int (52 : Int32)),
 Jvm.Cond.eq (Jvm.Term.elem (Jvm.Term.static "java/lang/Integer" "DigitTens" "[B") (Jvm.Term.int (48 : Int32))) (Jvm.Term.int (52 : Int32)),
 Jvm.Cond.eq (Jvm.Term.elem (Jvm.Term.static "java/lang/Integer" "DigitTens" "[B") (Jvm.Term.int (49 : Int32))) (Jvm.Term.int (52 : Int32)),
 Jvm.Cond.eq (Jvm.Term.elem (Jvm.Term.static "java/lang/Integer" "DigitTens" "[B") (Jvm.Term.int (50 : Int32))) (Jvm.Term.int (53 : Int32)),
 Jvm.Cond.eq (Jvm.Term.elem (Jvm.Term.static "java/lang/Integer" "DigitTens" "[B") (Jvm.Term.int (51 : Int32))) (Jvm.Term.int (53 : Int32)),
 Jvm.Cond.eq (Jvm.Term.elem (Jvm.Term.static "java/lang/Integer" "DigitTens" "[B") (Jvm.Term.int (52 : Int32))) (Jvm.Term.int (53 : Int32)),
 Jvm.Cond.eq (Jvm.Term.elem (Jvm.Term.static "java/lang/Integer" "DigitTens" "[B") (Jvm.Term.int (53 : Int32))) (Jvm.Term.int (53 : Int32)),
 Jvm.Cond.eq (Jvm.Term.elem (Jvm.Term.static "java/lang/Integer" "DigitTens" "[B") (Jvm.Term.int (54 : Int32))) (Jvm.Term.int (53 : Int32)),
 Jvm.Cond.eq (Jvm.Term.elem (Jvm.Term.static "java/lang/Integer" "DigitTens" "[B") (Jvm.Term.int (55 : Int32))) (Jvm.Term.int (53 : Int32)),
 Jvm.Cond.eq (Jvm.Term.elem (Jvm.Term.static "java/lang/Integer" "DigitTens" "[B") (Jvm.Term.int (56 : Int32))) (Jvm.Term.int (53 : Int32)),
 Jvm.Cond.eq (Jvm.Term.elem (Jvm.Term.static "java/lang/Integer" "DigitTens" "[B") (Jvm.Term.int (57 : Int32))) (Jvm.Term.int (53 : Int32)),
 Jvm.Cond.eq (Jvm.Term.elem (Jvm.Term.static "java/lang/Integer" "DigitTens" "[B") (Jvm.Term.int (58 : Int32))) (Jvm.Term.int (53 : Int32)),
 Jvm.Cond.eq (Jvm.Term.elem (Jvm.Term.static "java/lang/Integer" "DigitTens" "[B") (Jvm.Term.int (59 : Int32))) (Jvm.Term.int (53 : Int32)),
 Jvm.Cond.eq (Jvm.Term.elem (Jvm.Term.static "java/lang/Integer" "DigitTens" "[B") (Jvm.Term.int (60 : Int32))) (Jvm.Term.int (54 : Int32)),
 Jvm.Cond.eq (Jvm.Term.elem (Jvm.Term.static "java/lang/Integer" "DigitTens" "[B") (Jvm.Term.int (61 : Int32))) (Jvm.Term.int (54 : Int32)),
 Jvm.Cond.eq (Jvm.Term.elem (Jvm.Term.static "java/lang/Integer" "DigitTens" "[B") (Jvm.Term.int (62 : Int32))) (Jvm.Term.int (54 : Int32)),
 Jvm.Cond.eq (Jvm.Term.elem (Jvm.Term.static "java/lang/Integer" "DigitTens" "[B") (Jvm.Term.int (63 : Int32))) (Jvm.Term.int (54 : Int32)),
 Jvm.Cond.eq (Jvm.Term.elem (Jvm.Term.static "java/lang/Integer" "DigitTens" "[B") (Jvm.Term.int (64 : Int32))) (Jvm.Term.int (54 : Int32)),
 Jvm.Cond.eq (Jvm.Term.elem (Jvm.Term.static "java/lang/Integer" "DigitTens" "[B") (Jvm.Term.int (65 : Int32))) (Jvm.Term.int (54 : Int32)),
 Jvm.Cond.eq (Jvm.Term.elem (Jvm.Term.static "java/lang/Integer" "DigitTens" "[B") (Jvm.Term.int (66 : Int32))) (Jvm.Term.int (54 : Int32)),
 Jvm.Cond.eq (Jvm.Term.elem (Jvm.Term.static "java/lang/Integer" "DigitTens" "[B") (Jvm.Term.int (67 : Int32))) (Jvm.Term.int (54 : Int32)),
 Jvm.Cond.eq (Jvm.Term.elem (Jvm.Term.static "java/lang/Integer" "DigitTens" "[B") (Jvm.Term.int (68 : Int32))) (Jvm.Term.int (54 : Int32)),
 Jvm.Cond.eq (Jvm.Term.elem (Jvm.Term.static "java/lang/Integer" "DigitTens" "[B") (Jvm.Term.int (69 : Int32))) (Jvm.Term.int (54 : Int32)),
 Jvm.Cond.eq (Jvm.Term.elem (Jvm.Term.static "java/lang/Integer" "DigitTens" "[B") (Jvm.Term.int (70 : Int32))) (Jvm.Term.int (55 : Int32)),
 Jvm.Cond.eq (Jvm.Term.elem (Jvm.Term.static "java/lang/Integer" "DigitTens" "[B") (Jvm.Term.int (71 : Int32))) (Jvm.Term.int (55 : Int32)),
 Jvm.Cond.eq (Jvm.Term.elem (Jvm.Term.static "java/lang/Integer" "DigitTens" "[B") (Jvm.Term.int (72 : Int32))) (Jvm.Term.int (55 : Int32)),
 Jvm.Cond.eq (Jvm.Term.elem (Jvm.Term.static "java/lang/Integer" "DigitTens" "[B") (Jvm.Term.int (73 : Int32))) (Jvm.Term.int (55 : Int32)),
 Jvm.Cond.eq (Jvm.Term.elem (Jvm.Term.static "java/lang/Integer" "DigitTens" "[B") (Jvm.Term.int (74 : Int32))) (Jvm.Term.int (55 : Int32)),
 Jvm.Cond.eq (Jvm.Term.elem (Jvm.Term.static "java/lang/Integer" "DigitTens" "[B") (Jvm.Term.int (75 : Int32))) (Jvm.Term.int (55 : Int32)),
 Jvm.Cond.eq (Jvm.Term.elem (Jvm.Term.static "java/lang/Integer" "DigitTens" "[B") (Jvm.Term.int (76 : Int32))) (Jvm.Term.int (55 : Int32)),
 Jvm.Cond.eq (Jvm.Term.elem (Jvm.Term.static "java/lang/Integer" "DigitTens" "[B") (Jvm.Term.int (77 : Int32))) (Jvm.Term.int (55 : Int32)),
 Jvm.Cond.eq (Jvm.Term.elem (Jvm.Term.static "java/lang/Integer" "DigitTens" "[B") (Jvm.Term.int (78 : Int32))) (Jvm.Term.int (55 : Int32)),
 Jvm.Cond.eq (Jvm.Term.elem (Jvm.Term.static "java/lang/Integer" "DigitTens" "[B") (Jvm.Term.int (79 : Int32))) (Jvm.Term.int (55 : Int32)),
 Jvm.Cond.eq (Jvm.Term.elem (Jvm.Term.static "java/lang/Integer" "DigitTens" "[B") (Jvm.Term.int (80 : Int32))) (Jvm.Term.int (56 : Int32)),
 Jvm.Cond.eq (Jvm.Term.elem (Jvm.Term.static "java/lang/Integer" "DigitTens" "[B") (Jvm.Term.int (81 : Int32))) (Jvm.Term.int (56 : Int32)),
 Jvm.Cond.eq (Jvm.Term.elem (Jvm.Term.static "java/lang/Integer" "DigitTens" "[B") (Jvm.Term.int (82 : Int32))) (Jvm.Term.int (56 : Int32)),
 Jvm.Cond.eq (Jvm.Term.elem (Jvm.Term.static "java/lang/Integer" "DigitTens" "[B") (Jvm.Term.int (83 : Int32))) (Jvm.Term.int (56 : Int32)),
 Jvm.Cond.eq (Jvm.Term.elem (Jvm.Term.static "java/lang/Integer" "DigitTens" "[B") (Jvm.Term.int (84 : Int32))) (Jvm.Term.int (56 : Int32)),
 Jvm.Cond.eq (Jvm.Term.elem (Jvm.Term.static "java/lang/Integer" "DigitTens" "[B") (Jvm.Term.int (85 : Int32))) (Jvm.Term.int (56 : Int32)),
 Jvm.Cond.eq (Jvm.Term.elem (Jvm.Term.static "java/lang/Integer" "DigitTens" "[B") (Jvm.Term.int (86 : Int32))) (Jvm.Term.int (56 : Int32)),
 Jvm.Cond.eq (Jvm.Term.elem (Jvm.Term.static "java/lang/Integer" "DigitTens" "[B") (Jvm.Term.int (87 : Int32))) (Jvm.Term.int (56 : Int32)),
 Jvm.Cond.eq (Jvm.Term.elem (Jvm.Term.static "java/lang/Integer" "DigitTens" "[B") (Jvm.Term.int (88 : Int32))) (Jvm.Term.int (56 : Int32)),
 Jvm.Cond.eq (Jvm.Term.elem (Jvm.Term.static "java/lang/Integer" "DigitTens" "[B") (Jvm.Term.int (89 : Int32))) (Jvm.Term.int (56 : Int32)),
 Jvm.Cond.eq (Jvm.Term.elem (Jvm.Term.static "java/lang/Integer" "DigitTens" "[B") (Jvm.Term.int (90 : Int32))) (Jvm.Term.int (57 : Int32)),
 Jvm.Cond.eq (Jvm.Term.elem (Jvm.Term.static "java/lang/Integer" "DigitTens" "[B") (Jvm.Term.int (91 : Int32))) (Jvm.Term.int (57 : Int32)),
 Jvm.Cond.eq (Jvm.Term.elem (Jvm.Term.static "java/lang/Integer" "DigitTens" "[B") (Jvm.Term.int (92 : Int32))) (Jvm.Term.int (57 : Int32)),
 Jvm.Cond.eq (Jvm.Term.elem (Jvm.Term.static "java/lang/Integer" "DigitTens" "[B") (Jvm.Term.int (93 : Int32))) (Jvm.Term.int (57 : Int32)),
 Jvm.Cond.eq (Jvm.Term.elem (Jvm.Term.static "java/lang/Integer" "DigitTens" "[B") (Jvm.Term.int (94 : Int32))) (Jvm.Term.int (57 : Int32)),
 Jvm.Cond.eq (Jvm.Term.elem (Jvm.Term.static "java/lang/Integer" "DigitTens" "[B") (Jvm.Term.int (95 : Int32))) (Jvm.Term.int (57 : Int32)),
 Jvm.Cond.eq (Jvm.Term.elem (Jvm.Term.static "java/lang/Integer" "DigitTens" "[B") (Jvm.Term.int (96 : Int32))) (Jvm.Term.int (57 : Int32)),
 Jvm.Cond.eq (Jvm.Term.elem (Jvm.Term.static "java/lang/Integer" "DigitTens" "[B") (Jvm.Term.int (97 : Int32))) (Jvm.Term.int (57 : Int32)),
 Jvm.Cond.eq (Jvm.Term.elem (Jvm.Term.static "java/lang/Integer" "DigitTens" "[B") (Jvm.Term.int (98 : Int32))) (Jvm.Term.int (57 : Int32)),
 Jvm.Cond.eq (Jvm.Term.elem (Jvm.Term.static "java/lang/Integer" "DigitTens" "[B") (Jvm.Term.int (99 : Int32))) (Jvm.Term.int (57 : Int32)),
 Jvm.Cond.not (Jvm.Cond.castable "Encores" "Encores$Moment"),
 Jvm.Cond.not (Jvm.Cond.castable "Encores$House" "Encores$Moment"),
 Jvm.Cond.not (Jvm.Cond.castable "Encores$Table" "Encores$Moment"),
 Jvm.Cond.not (Jvm.Cond.castable "Encores$Past" "Encores$Moment"),
 Jvm.Cond.not (Jvm.Cond.castable "Encores$Tape" "Encores$Moment"),
 Jvm.Cond.not (Jvm.Cond.castable "Encores$Reader" "Encores$Moment"),
 Jvm.Cond.not (Jvm.Cond.castable "Encores$Law" "Encores$Moment"),
 Jvm.Cond.not (Jvm.Cond.castable "Encores$Stage" "Encores$Moment"),
 Jvm.Cond.not (Jvm.Cond.castable "Encores$Fewest" "Encores$Moment"),
 Jvm.Cond.not (Jvm.Cond.castable "Encores$Seats" "Encores$Moment"),
 Jvm.Cond.not (Jvm.Cond.castable "Encores$Programme" "Encores$Moment"),
 Jvm.Cond.not (Jvm.Cond.castable "EncoresLaw$House" "Encores$Moment"),
 Jvm.Cond.not (Jvm.Cond.castable "java/lang/StringBuilder" "Encores$Moment"),
 Jvm.Cond.not (Jvm.Cond.castable "java/lang/String" "Encores$Moment"),
 Jvm.Cond.not (Jvm.Cond.castable "Encores" "EncoresLaw$House"),
 Jvm.Cond.not (Jvm.Cond.castable "Encores$House" "EncoresLaw$House"),
 Jvm.Cond.not (Jvm.Cond.castable "Encores$Table" "EncoresLaw$House"),
 Jvm.Cond.not (Jvm.Cond.castable "Encores$Past" "EncoresLaw$House"),
 Jvm.Cond.not (Jvm.Cond.castable "Encores$Moment" "EncoresLaw$House"),
 Jvm.Cond.not (Jvm.Cond.castable "Encores$Tape" "EncoresLaw$House"),
 Jvm.Cond.not (Jvm.Cond.castable "Encores$Reader" "EncoresLaw$House"),
 Jvm.Cond.not (Jvm.Cond.castable "Encores$Law" "EncoresLaw$House"),
 Jvm.Cond.not (Jvm.Cond.castable "Encores$Stage" "EncoresLaw$House"),
 Jvm.Cond.not (Jvm.Cond.castable "Encores$Fewest" "EncoresLaw$House"),
 Jvm.Cond.not (Jvm.Cond.castable "Encores$Seats" "EncoresLaw$House"),
 Jvm.Cond.not (Jvm.Cond.castable "Encores$Programme" "EncoresLaw$House"),
 Jvm.Cond.not (Jvm.Cond.castable "java/lang/StringBuilder" "EncoresLaw$House"),
 Jvm.Cond.not (Jvm.Cond.castable "java/lang/String" "EncoresLaw$House"),
 Jvm.Cond.exactly (Jvm.Term.string "EncoresLaw" (68 : Nat)) "java/lang/String",
 Jvm.Cond.eq (Jvm.Term.field (Jvm.Term.string "EncoresLaw" (68 : Nat)) "java/lang/String" "coder" "B") (Jvm.Term.int (0 : Int32)),
 Jvm.Cond.arrayOf (Jvm.Term.field (Jvm.Term.string "EncoresLaw" (68 : Nat)) "java/lang/String" "value" "[B") Jvm.ClassFile.FieldType.byte,
 Jvm.Cond.eq (Jvm.Term.length (Jvm.Term.field (Jvm.Term.string "EncoresLaw" (68 : Nat)) "java/lang/String" "value" "[B")) (Jvm.Term.int (6 : Int32)),
 Jvm.Cond.eq (Jvm.Term.elem (Jvm.Term.field (Jvm.Term.string "EncoresLaw" (68 : Nat)) "java/lang/String" "value" "[B") (Jvm.Term.int (0 : Int32))) (Jvm.Term.int (104 : Int32)),
 Jvm.Cond.eq (Jvm.Term.elem (Jvm.Term.field (Jvm.Term.string "EncoresLaw" (68 : Nat)) "java/lang/String" "value" "[B") (Jvm.Term.int (1 : Int32))) (Jvm.Term.int (97 : Int32)),
 Jvm.Cond.eq (Jvm.Term.elem (Jvm.Term.field (Jvm.Term.string "EncoresLaw" (68 : Nat)) "java/lang/String" "value" "[B") (Jvm.Term.int (2 : Int32))) (Jvm.Term.int (110 : Int32)),
 Jvm.Cond.eq (Jvm.Term.elem (Jvm.Term.field (Jvm.Term.string "EncoresLaw" (68 : Nat)) "java/lang/String" "value" "[B") (Jvm.Term.int (3 : Int32))) (Jvm.Term.int (100 : Int32)),
 Jvm.Cond.eq (Jvm.Term.elem (Jvm.Term.field (Jvm.Term.string "EncoresLaw" (68 : Nat)) "java/lang/String" "value" "[B") (Jvm.Term.int (4 : Int32))) (Jvm.Term.int (115 : Int32)),
 Jvm.Cond.eq (Jvm.Term.elem (Jvm.Term.field (Jvm.Term.string "EncoresLaw" (68 : Nat)) "java/lang/String" "value" "[B") (Jvm.Term.int (5 : Int32))) (Jvm.Term.int (32 : Int32)),
 Jvm.Cond.exactly (Jvm.Term.string "EncoresLaw" (77 : Nat)) "java/lang/String",
 Jvm.Cond.eq (Jvm.Term.field (Jvm.Term.string "EncoresLaw" (77 : Nat)) "java/lang/String" "coder" "B") (Jvm.Term.int (0 : Int32)),
 Jvm.Cond.arrayOf (Jvm.Term.field (Jvm.Term.string "EncoresLaw" (77 : Nat)) "java/lang/String" "value" "[B") Jvm.ClassFile.FieldType.byte,
 Jvm.Cond.eq (Jvm.Term.length (Jvm.Term.field (Jvm.Term.string "EncoresLaw" (77 : Nat)) "java/lang/String" "value" "[B")) (Jvm.Term.int (6 : Int32)),
 Jvm.Cond.eq (Jvm.Term.elem (Jvm.Term.field (Jvm.Term.string "EncoresLaw" (77 : Nat)) "java/lang/String" "value" "[B") (Jvm.Term.int (0 : Int32))) (Jvm.Term.int (32 : Int32)),
 Jvm.Cond.eq (Jvm.Term.elem (Jvm.Term.field (Jvm.Term.string "EncoresLaw" (77 : Nat)) "java/lang/String" "value" "[B") (Jvm.Term.int (1 : Int32))) (Jvm.Term.int (102 : Int32)),
 Jvm.Cond.eq (Jvm.Term.elem (Jvm.Term.field (Jvm.Term.string "EncoresLaw" (77 : Nat)) "java/lang/String" "value" "[B") (Jvm.Term.int (2 : Int32))) (Jvm.Term.int (114 : Int32)),
 Jvm.Cond.eq (Jvm.Term.elem (Jvm.Term.field (Jvm.Term.string "EncoresLaw" (77 : Nat)) "java/lang/String" "value" "[B") (Jvm.Term.int (3 : Int32))) (Jvm.Term.int (111 : Int32)),
 Jvm.Cond.eq (Jvm.Term.elem (Jvm.Term.field (Jvm.Term.string "EncoresLaw" (77 : Nat)) "java/lang/String" "value" "[B") (Jvm.Term.int (4 : Int32))) (Jvm.Term.int (109 : Int32)),
 Jvm.Cond.eq (Jvm.Term.elem (Jvm.Term.field (Jvm.Term.string "EncoresLaw" (77 : Nat)) "java/lang/String" "value" "[B") (Jvm.Term.int (5 : Int32))) (Jvm.Term.int (32 : Int32)),
 Jvm.Cond.not (Jvm.Cond.eq (Jvm.Term.string "EncoresLaw" (68 : Nat)) (Jvm.Term.string "EncoresLaw" (77 : Nat))),
 Jvm.Cond.exactly (Jvm.Term.string "EncoresLaw" (79 : Nat)) "java/lang/String",
 Jvm.Cond.eq (Jvm.Term.field (Jvm.Term.string "EncoresLaw" (79 : Nat)) "java/lang/String" "coder" "B") (Jvm.Term.int (0 : Int32)),
 Jvm.Cond.arrayOf (Jvm.Term.field (Jvm.Term.string "EncoresLaw" (79 : Nat)) "java/lang/String" "value" "[B") Jvm.ClassFile.FieldType.byte,
 Jvm.Cond.eq (Jvm.Term.length (Jvm.Term.field (Jvm.Term.string "EncoresLaw" (79 : Nat)) "java/lang/String" "value" "[B")) (Jvm.Term.int (1 : Int32)),
 Jvm.Cond.eq (Jvm.Term.elem (Jvm.Term.field (Jvm.Term.string "EncoresLaw" (79 : Nat)) "java/lang/String" "value" "[B") (Jvm.Term.int (0 : Int32))) (Jvm.Term.int (59 : Int32)),
 Jvm.Cond.not (Jvm.Cond.eq (Jvm.Term.string "EncoresLaw" (68 : Nat)) (Jvm.Term.string "EncoresLaw" (79 : Nat))),
 Jvm.Cond.not (Jvm.Cond.eq (Jvm.Term.string "EncoresLaw" (77 : Nat)) (Jvm.Term.string "EncoresLaw" (79 : Nat))),
 Jvm.Cond.exactly (Jvm.Term.string "EncoresLaw" (85 : Nat)) "java/lang/String",
 Jvm.Cond.eq (Jvm.Term.field (Jvm.Term.string "EncoresLaw" (85 : Nat)) "java/lang/String" "coder" "B") (Jvm.Term.int (0 : Int32)),
 Jvm.Cond.arrayOf (Jvm.Term.field (Jvm.Term.string "EncoresLaw" (85 : Nat)) "java/lang/String" "value" "[B") Jvm.ClassFile.FieldType.byte,
 Jvm.Cond.eq (Jvm.Term.length (Jvm.Term.field (Jvm.Term.string "EncoresLaw" (85 : Nat)) "java/lang/String" "value" "[B")) (Jvm.Term.int (5 : Int32)),
 Jvm.Cond.eq (Jvm.Term.elem (Jvm.Term.field (Jvm.Term.string "EncoresLaw" (85 : Nat)) "java/lang/String" "value" "[B") (Jvm.Term.int (0 : Int32))) (Jvm.Term.int (109 : Int32)),
 Jvm.Cond.eq (Jvm.Term.elem (Jvm.Term.field (Jvm.Term.string "EncoresLaw" (85 : Nat)) "java/lang/String" "value" "[B") (Jvm.Term.int (1 : Int32))) (Jvm.Term.int (111 : Int32)),
 Jvm.Cond.eq (Jvm.Term.elem (Jvm.Term.field (Jvm.Term.string "EncoresLaw" (85 : Nat)) "java/lang/String" "value" "[B") (Jvm.Term.int (2 : Int32))) (Jvm.Term.int (115 : Int32)),
 Jvm.Cond.eq (Jvm.Term.elem (Jvm.Term.field (Jvm.Term.string "EncoresLaw" (85 : Nat)) "java/lang/String" "value" "[B") (Jvm.Term.int (3 : Int32))) (Jvm.Term.int (116 : Int32)),
 Jvm.Cond.eq (Jvm.Term.elem (Jvm.Term.field (Jvm.Term.string "EncoresLaw" (85 : Nat)) "java/lang/String" "value" "[B") (Jvm.Term.int (4 : Int32))) (Jvm.Term.int (32 : Int32)),
 Jvm.Cond.not (Jvm.Cond.eq (Jvm.Term.string "EncoresLaw" (68 : Nat)) (Jvm.Term.string "EncoresLaw" (85 : Nat))),
 Jvm.Cond.not (Jvm.Cond.eq (Jvm.Term.string "EncoresLaw" (77 : Nat)) (Jvm.Term.string "EncoresLaw" (85 : Nat))),
 Jvm.Cond.not (Jvm.Cond.eq (Jvm.Term.string "EncoresLaw" (79 : Nat)) (Jvm.Term.string "EncoresLaw" (85 : Nat))),
 Jvm.Cond.exactly (Jvm.Term.string "EncoresLaw" (87 : Nat)) "java/lang/String",
 Jvm.Cond.eq (Jvm.Term.field (Jvm.Term.string "EncoresLaw" (87 : Nat)) "java/lang/String" "coder" "B") (Jvm.Term.int (0 : Int32)),
 Jvm.Cond.arrayOf (Jvm.Term.field (Jvm.Term.string "EncoresLaw" (87 : Nat)) "java/lang/String" "value" "[B") Jvm.ClassFile.FieldType.byte,
 Jvm.Cond.eq (Jvm.Term.length (Jvm.Term.field (Jvm.Term.string "EncoresLaw" (87 : Nat)) "java/lang/String" "value" "[B")) (Jvm.Term.int (4 : Int32)),
 Jvm.Cond.eq (Jvm.Term.elem (Jvm.Term.field (Jvm.Term.string "EncoresLaw" (87 : Nat)) "java/lang/String" "value" "[B") (Jvm.Term.int (0 : Int32))) (Jvm.Term.int (101 : Int32)),
 Jvm.Cond.eq (Jvm.Term.elem (Jvm.Term.field (Jvm.Term.string "EncoresLaw" (87 : Nat)) "java/lang/String" "value" "[B") (Jvm.Term.int (1 : Int32))) (Jvm.Term.int (110 : Int32)),
 Jvm.Cond.eq (Jvm.Term.elem (Jvm.Term.field (Jvm.Term.string "EncoresLaw" (87 : Nat)) "java/lang/String" "value" "[B") (Jvm.Term.int (2 : Int32))) (Jvm.Term.int (100 : Int32)),
 Jvm.Cond.eq (Jvm.Term.elem (Jvm.Term.field (Jvm.Term.string "EncoresLaw" (87 : Nat)) "java/lang/String" "value" "[B") (Jvm.Term.int (3 : Int32))) (Jvm.Term.int (32 : Int32)),
 Jvm.Cond.not (Jvm.Cond.eq (Jvm.Term.string "EncoresLaw" (68 : Nat)) (Jvm.Term.string "EncoresLaw" (87 : Nat))),
 Jvm.Cond.not (Jvm.Cond.eq (Jvm.Term.string "EncoresLaw" (77 : Nat)) (Jvm.Term.string "EncoresLaw" (87 : Nat))),
 Jvm.Cond.not (Jvm.Cond.eq (Jvm.Term.string "EncoresLaw" (79 : Nat)) (Jvm.Term.string "EncoresLaw" (87 : Nat))),
 Jvm.Cond.not (Jvm.Cond.eq (Jvm.Term.string "EncoresLaw" (85 : Nat)) (Jvm.Term.string "EncoresLaw" (87 : Nat))),
 Jvm.Cond.exactly (Jvm.Term.string "EncoresLaw" (89 : Nat)) "java/lang/String",
 Jvm.Cond.eq (Jvm.Term.field (Jvm.Term.string "EncoresLaw" (89 : Nat)) "java/lang/String" "coder" "B") (Jvm.Term.int (0 : Int32)),
 Jvm.Cond.arrayOf (Jvm.Term.field (Jvm.Term.string "EncoresLaw" (89 : Nat)) "java/lang/String" "value" "[B") Jvm.ClassFile.FieldType.byte,
 Jvm.Cond.eq (Jvm.Term.length (Jvm.Term.field (Jvm.Term.string "EncoresLaw" (89 : Nat)) "java/lang/String" "value" "[B")) (Jvm.Term.int (7 : Int32)),
 Jvm.Cond.eq (Jvm.Term.elem (Jvm.Term.field (Jvm.Term.string "EncoresLaw" (89 : Nat)) "java/lang/String" "value" "[B") (Jvm.Term.int (0 : Int32))) (Jvm.Term.int (100 : Int32)),
 Jvm.Cond.eq (Jvm.Term.elem (Jvm.Term.field (Jvm.Term.string "EncoresLaw" (89 : Nat)) "java/lang/String" "value" "[B") (Jvm.Term.int (1 : Int32))) (Jvm.Term.int (111 : Int32)),
 Jvm.Cond.eq (Jvm.Term.elem (Jvm.Term.field (Jvm.Term.string "EncoresLaw" (89 : Nat)) "java/lang/String" "value" "[B") (Jvm.Term.int (2 : Int32))) (Jvm.Term.int (117 : Int32)),
 Jvm.Cond.eq (Jvm.Term.elem (Jvm.Term.field (Jvm.Term.string "EncoresLaw" (89 : Nat)) "java/lang/String" "value" "[B") (Jvm.Term.int (3 : Int32))) (Jvm.Term.int (98 : Int32)),
 Jvm.Cond.eq (Jvm.Term.elem (Jvm.Term.field (Jvm.Term.string "EncoresLaw" (89 : Nat)) "java/lang/String" "value" "[B") (Jvm.Term.int (4 : Int32))) (Jvm.Term.int (108 : Int32)),
 Jvm.Cond.eq (Jvm.Term.elem (Jvm.Term.field (Jvm.Term.string "EncoresLaw" (89 : Nat)) "java/lang/String" "value" "[B") (Jvm.Term.int (5 : Int32))) (Jvm.Term.int (101 : Int32)),
 Jvm.Cond.eq (Jvm.Term.elem (Jvm.Term.field (Jvm.Term.string "EncoresLaw" (89 : Nat)) "java/lang/String" "value" "[B") (Jvm.Term.int (6 : Int32))) (Jvm.Term.int (32 : Int32)),
 Jvm.Cond.not (Jvm.Cond.eq (Jvm.Term.string "EncoresLaw" (68 : Nat)) (Jvm.Term.string "EncoresLaw" (89 : Nat))),
 Jvm.Cond.not (Jvm.Cond.eq (Jvm.Term.string "EncoresLaw" (77 : Nat)) (Jvm.Term.string "EncoresLaw" (89 : Nat))),
 Jvm.Cond.not (Jvm.Cond.eq (Jvm.Term.string "EncoresLaw" (79 : Nat)) (Jvm.Term.string "EncoresLaw" (89 : Nat))),
 Jvm.Cond.not (Jvm.Cond.eq (Jvm.Term.string "EncoresLaw" (85 : Nat)) (Jvm.Term.string "EncoresLaw" (89 : Nat))),
 Jvm.Cond.not (Jvm.Cond.eq (Jvm.Term.string "EncoresLaw" (87 : Nat)) (Jvm.Term.string "EncoresLaw" (89 : Nat))),
 Jvm.Cond.exactly (Jvm.Term.string "Encores$Tape" (80 : Nat)) "java/lang/String",
 Jvm.Cond.eq (Jvm.Term.field (Jvm.Term.string "Encores$Tape" (80 : Nat)) "java/lang/String" "coder" "B") (Jvm.Term.int (0 : Int32)),
 Jvm.Cond.arrayOf (Jvm.Term.field (Jvm.Term.string "Encores$Tape" (80 : Nat)) "java/lang/String" "value" "[B") Jvm.ClassFile.FieldType.byte,
 Jvm.Cond.eq (Jvm.Term.length (Jvm.Term.field (Jvm.Term.string "Encores$Tape" (80 : Nat)) "java/lang/String" "value" "[B")) (Jvm.Term.int (123 : Int32)),
 Jvm.Cond.eq (Jvm.Term.elem (Jvm.Term.field (Jvm.Term.string "Encores$Tape" (80 : Nat)) "java/lang/String" "value" "[B") (Jvm.Term.int (0 : Int32))) (Jvm.Term.int (108 : Int32)),
 Jvm.Cond.eq (Jvm.Term.elem (Jvm.Term.field (Jvm.Term.string "Encores$Tape" (80 : Nat)) "java/lang/String" "value" "[B") (Jvm.Term.int (1 : Int32))) (Jvm.Term.int (111 : Int32)),
 Jvm.Cond.eq (Jvm.Term.elem (Jvm.Term.field (Jvm.Term.string "Encores$Tape" (80 : Nat)) "java/lang/String" "value" "[B") (Jvm.Term.int (2 : Int32))) (Jvm.Term.int (117 : Int32)),
 Jvm.Cond.eq (Jvm.Term.elem (Jvm.Term.field (Jvm.Term.string "Encores$Tape" (80 : Nat)) "java/lang/String" "value" "[B") (Jvm.Term.int (3 : Int32))) (Jvm.Term.int (100 : Int32)),
 Jvm.Cond.eq (Jvm.Term.elem (Jvm.Term.field (Jvm.Term.string "Encores$Tape" (80 : Nat)) "java/lang/String" "value" "[B") (Jvm.Term.int (4 : Int32))) (Jvm.Term.int (32 : Int32)),
 Jvm.Cond.eq (Jvm.Term.elem (Jvm.Term.field (Jvm.Term.string "Encores$Tape" (80 : Nat)) "java/lang/String" "value" "[B") (Jvm.Term.int (5 : Int32))) (Jvm.Term.int (99 : Int32)),
 Jvm.Cond.eq (Jvm.Term.elem (Jvm.Term.field (Jvm.Term.string "Encores$Tape" (80 : Nat)) "java/lang/String" "value" "[B") (Jvm.Term.int (6 : Int32))) (Jvm.Term.int (108 : Int32)),
 Jvm.Cond.eq (Jvm.Term.elem (Jvm.Term.field (Jvm.Term.string "Encores$Tape" (80 : Nat)) "java/lang/String" "value" "[B") (Jvm.Term.int (7 : Int32))) (Jvm.Term.int (97 : Int32)),
 Jvm.Cond.eq (Jvm.Term.elem (Jvm.Term.field (Jvm.Term.string "Encores$Tape" (80 : Nat)) "java/lang/String" "value" "[B") (Jvm.Term.int (8 : Int32))) (Jvm.Term.int (112 : Int32)),
 Jvm.Cond.eq (Jvm.Term.elem (Jvm.Term.field (Jvm.Term.string "Encores$Tape" (80 : Nat)) "java/lang/String" "value" "[B") (Jvm.Term.int (9 : Int32))) (Jvm.Term.int (32 : Int32)),
 Jvm.Cond.eq (Jvm.Term.elem (Jvm.Term.field (Jvm.Term.string "Encores$Tape" (80 : Nat)) "java/lang/String" "value" "[B") (Jvm.Term.int (10 : Int32))) (Jvm.Term.int (119 : Int32)),
 Jvm.Cond.eq (Jvm.Term.elem (Jvm.Term.field (Jvm.Term.string "Encores$Tape" (80 : Nat)) "java/lang/String" "value" "[B") (Jvm.Term.int (11 : Int32))) (Jvm.Term.int (101 : Int32)),
 Jvm.Cond.eq (Jvm.Term.elem (Jvm.Term.field (Jvm.Term.string "Encores$Tape" (80 : Nat)) "java/lang/String" "value" "[B") (Jvm.Term.int (12 : Int32))) (Jvm.Term.int (97 : Int32)),
 Jvm.Cond.eq (Jvm.Term.elem (Jvm.Term.field (Jvm.Term.string "Encores$Tape" (80 : Nat)) "java/lang/String" "value" "[B") (Jvm.Term.int (13 : Int32))) (Jvm.Term.int (114 : Int32)),
 Jvm.Cond.eq (Jvm.Term.elem (Jvm.Term.field (Jvm.Term.string "Encores$Tape" (80 : Nat)) "java/lang/String" "value" "[B") (Jvm.Term.int (14 : Int32))) (Jvm.Term.int (115 : Int32)),
 Jvm.Cond.eq (Jvm.Term.elem (Jvm.Term.field (Jvm.Term.string "Encores$Tape" (80 : Nat)) "java/lang/String" "value" "[B") (Jvm.Term.int (15 : Int32))) (Jvm.Term.int (32 : Int32)),
 Jvm.Cond.eq (Jvm.Term.elem (Jvm.Term.field (Jvm.Term.string "Encores$Tape" (80 : Nat)) "java/lang/String" "value" "[B") (Jvm.Term.int (16 : Int32))) (Jvm.Term.int (119 : Int32)),
 Jvm.Cond.eq (Jvm.Term.elem (Jvm.Term.field (Jvm.Term.string "Encores$Tape" (80 : Nat)) "java/lang/String" "value" "[B") (Jvm.Term.int (17 : Int32))) (Jvm.Term.int (104 : Int32)),
 Jvm.Cond.eq (Jvm.Term.elem (Jvm.Term.field (Jvm.Term.string "Encores$Tape" (80 : Nat)) "java/lang/String" "value" "[B") (Jvm.Term.int (18 : Int32))) (Jvm.Term.int (101 : Int32)),
 Jvm.Cond.eq (Jvm.Term.elem (Jvm.Term.field (Jvm.Term.string "Encores$Tape" (80 : Nat)) "java/lang/String" "value" "[B") (Jvm.Term.int (19 : Int32))) (Jvm.Term.int (110 : Int32)),
 Jvm.Cond.eq (Jvm.Term.elem (Jvm.Term.field (Jvm.Term.string "Encores$Tape" (80 : Nat)) "java/lang/String" "value" "[B") (Jvm.Term.int (20 : Int32))) (Jvm.Term.int (32 : Int32)),
 Jvm.Cond.eq (Jvm.Term.elem (Jvm.Term.field (Jvm.Term.string "Encores$Tape" (80 : Nat)) "java/lang/String" "value" "[B") (Jvm.Term.int (21 : Int32))) (Jvm.Term.int (111 : Int32)),
 Jvm.Cond.eq (Jvm.Term.elem (Jvm.Term.field (Jvm.Term.string "Encores$Tape" (80 : Nat)) "java/lang/String" "value" "[B") (Jvm.Term.int (22 : Int32))) (Jvm.Term.int (114 : Int32)),
 Jvm.Cond.eq (Jvm.Term.elem (Jvm.Term.field (Jvm.Term.string "Encores$Tape" (80 : Nat)) "java/lang/String" "value" "[B") (Jvm.Term.int (23 : Int32))) (Jvm.Term.int (32 : Int32)),
 Jvm.Cond.eq (Jvm.Term.elem (Jvm.Term.field (Jvm.Term.string "Encores$Tape" (80 : Nat)) "java/lang/String" "value" "[B") (Jvm.Term.int (24 : Int32))) (Jvm.Term.int (97 : Int32)),
 Jvm.Cond.eq (Jvm.Term.elem (Jvm.Term.field (Jvm.Term.string "Encores$Tape" (80 : Nat)) "java/lang/String" "value" "[B") (Jvm.Term.int (25 : Int32))) (Jvm.Term.int (110 : Int32)),
 Jvm.Cond.eq (Jvm.Term.elem (Jvm.Term.field (Jvm.Term.string "Encores$Tape" (80 : Nat)) "java/lang/String" "value" "[B") (Jvm.Term.int (26 : Int32))) (Jvm.Term.int (100 : Int32)),
 Jvm.Cond.eq (Jvm.Term.elem (Jvm.Term.field (Jvm.Term.string "Encores$Tape" (80 : Nat)) "java/lang/String" "value" "[B") (Jvm.Term.int (27 : Int32))) (Jvm.Term.int (32 : Int32)),
 Jvm.Cond.eq (Jvm.Term.elem (Jvm.Term.field (Jvm.Term.string "Encores$Tape" (80 : Nat)) "java/lang/String" "value" "[B") (Jvm.Term.int (28 : Int32))) (Jvm.Term.int (110 : Int32)),
 Jvm.Cond.eq (Jvm.Term.elem (Jvm.Term.field (Jvm.Term.string "Encores$Tape" (80 : Nat)) "java/lang/String" "value" "[B") (Jvm.Term.int (29 : Int32))) (Jvm.Term.int (111 : Int32)),
 Jvm.Cond.eq (Jvm.Term.elem (Jvm.Term.field (Jvm.Term.string "Encores$Tape" (80 : Nat)) "java/lang/String" "value" "[B") (Jvm.Term.int (30 : Int32))) (Jvm.Term.int (116 : Int32)),
 Jvm.Cond.eq (Jvm.Term.elem (Jvm.Term.field (Jvm.Term.string "Encores$Tape" (80 : Nat)) "java/lang/String" "value" "[B") (Jvm.Term.int (31 : Int32))) (Jvm.Term.int (32 : Int32)),
 Jvm.Cond.eq (Jvm.Term.elem (Jvm.Term.field (Jvm.Term.string "Encores$Tape" (80 : Nat)) "java/lang/String" "value" "[B") (Jvm.Term.int (32 : Int32))) (Jvm.Term.int (104 : Int32)),
 Jvm.Cond.eq (Jvm.Term.elem (Jvm.Term.field (Jvm.Term.string "Encores$Tape" (80 : Nat)) "java/lang/String" "value" "[B") (Jvm.Term.int (33 : Int32))) (Jvm.Term.int (101 : Int32)),
 Jvm.Cond.eq (Jvm.Term.elem (Jvm.Term.field (Jvm.Term.string "Encores$Tape" (80 : Nat)) "java/lang/String" "value" "[B") (Jvm.Term.int (34 : Int32))) (Jvm.Term.int (97 : Int32)),
 Jvm.Cond.eq (Jvm.Term.elem (Jvm.Term.field (Jvm.Term.string "Encores$Tape" (80 : Nat)) "java/lang/String" "value" "[B") (Jvm.Term.int (35 : Int32))) (Jvm.Term.int (114 : Int32)),
 Jvm.Cond.eq (Jvm.Term.elem (Jvm.Term.field (Jvm.Term.string "Encores$Tape" (80 : Nat)) "java/lang/String" "value" "[B") (Jvm.Term.int (36 : Int32))) (Jvm.Term.int (101 : Int32)),
 Jvm.Cond.eq (Jvm.Term.elem (Jvm.Term.field (Jvm.Term.string "Encores$Tape" (80 : Nat)) "java/lang/String" "value" "[B") (Jvm.Term.int (37 : Int32))) (Jvm.Term.int (114 : Int32)),
 Jvm.Cond.eq (Jvm.Term.elem (Jvm.Term.field (Jvm.Term.string "Encores$Tape" (80 : Nat)) "java/lang/String" "value" "[B") (Jvm.Term.int (38 : Int32))) (Jvm.Term.int (32 : Int32)),
 Jvm.Cond.eq (Jvm.Term.elem (Jvm.Term.field (Jvm.Term.string "Encores$Tape" (80 : Nat)) "java/lang/String" "value" "[B") (Jvm.Term.int (39 : Int32))) (Jvm.Term.int (104 : Int32)),
 Jvm.Cond.eq (Jvm.Term.elem (Jvm.Term.field (Jvm.Term.string "Encores$Tape" (80 : Nat)) "java/lang/String" "value" "[B") (Jvm.Term.int (40 : Int32))) (Jvm.Term.int (97 : Int32)),
 Jvm.Cond.eq (Jvm.Term.elem (Jvm.Term.field (Jvm.Term.string "Encores$Tape" (80 : Nat)) "java/lang/String" "value" "[B") (Jvm.Term.int (41 : Int32))) (Jvm.Term.int (110 : Int32)),
 Jvm.Cond.eq (Jvm.Term.elem (Jvm.Term.field (Jvm.Term.string "Encores$Tape" (80 : Nat)) "java/lang/String" "value" "[B") (Jvm.Term.int (42 : Int32))) (Jvm.Term.int (100 : Int32)),
 Jvm.Cond.eq (Jvm.Term.elem (Jvm.Term.field (Jvm.Term.string "Encores$Tape" (80 : Nat)) "java/lang/String" "value" "[B") (Jvm.Term.int (43 : Int32))) (Jvm.Term.int (115 : Int32)),
 Jvm.Cond.eq (Jvm.Term.elem (Jvm.Term.field (Jvm.Term.string "Encores$Tape" (80 : Nat)) "java/lang/String" "value" "[B") (Jvm.Term.int (44 : Int32))) (Jvm.Term.int (32 : Int32)),
 Jvm.Cond.eq (Jvm.Term.elem (Jvm.Term.field (Jvm.Term.string "Encores$Tape" (80 : Nat)) "java/lang/String" "value" "[B") (Jvm.Term.int (45 : Int32))) (Jvm.Term.int (108 : Int32)),
 Jvm.Cond.eq (Jvm.Term.elem (Jvm.Term.field (Jvm.Term.string "Encores$Tape" (80 : Nat)) "java/lang/String" "value" "[B") (Jvm.Term.int (46 : Int32))) (Jvm.Term.int (105 : Int32)),
 Jvm.Cond.eq (Jvm.Term.elem (Jvm.Term.field (Jvm.Term.string "Encores$Tape" (80 : Nat)) "java/lang/String" "value" "[B") (Jvm.Term.int (47 : Int32))) (Jvm.Term.int (107 : Int32)),
 Jvm.Cond.eq (Jvm.Term.elem (Jvm.Term.field (Jvm.Term.string "Encores$Tape" (80 : Nat)) "java/lang/String" "value" "[B") (Jvm.Term.int (48 : Int32))) (Jvm.Term.int (101 : Int32)),
 Jvm.Cond.eq (Jvm.Term.elem (Jvm.Term.field (Jvm.Term.string "Encores$Tape" (80 : Nat)) "java/lang/String" "value" "[B") (Jvm.Term.int (49 : Int32))) (Jvm.Term.int (115 : Int32)),
 Jvm.Cond.eq (Jvm.Term.elem (Jvm.Term.field (Jvm.Term.string "Encores$Tape" (80 : Nat)) "java/lang/String" "value" "[B") (Jvm.Term.int (50 : Int32))) (Jvm.Term.int (32 : Int32)),
 Jvm.Cond.eq (Jvm.Term.elem (Jvm.Term.field (Jvm.Term.string "Encores$Tape" (80 : Nat)) "java/lang/String" "value" "[B") (Jvm.Term.int (51 : Int32))) (Jvm.Term.int (109 : Int32)),
 Jvm.Cond.eq (Jvm.Term.elem (Jvm.Term.field (Jvm.Term.string "Encores$Tape" (80 : Nat)) "java/lang/String" "value" "[B") (Jvm.Term.int (52 : Int32))) (Jvm.Term.int (97 : Int32)),
 Jvm.Cond.eq (Jvm.Term.elem (Jvm.Term.field (Jvm.Term.string "Encores$Tape" (80 : Nat)) "java/lang/String" "value" "[B") (Jvm.Term.int (53 : Int32))) (Jvm.Term.int (110 : Int32)),
 Jvm.Cond.eq (Jvm.Term.elem (Jvm.Term.field (Jvm.Term.string "Encores$Tape" (80 : Nat)) "java/lang/String" "value" "[B") (Jvm.Term.int (54 : Int32))) (Jvm.Term.int (110 : Int32)),
 Jvm.Cond.eq (Jvm.Term.elem (Jvm.Term.field (Jvm.Term.string "Encores$Tape" (80 : Nat)) "java/lang/String" "value" "[B") (Jvm.Term.int (55 : Int32))) (Jvm.Term.int (101 : Int32)),
 Jvm.Cond.eq (Jvm.Term.elem (Jvm.Term.field (Jvm.Term.string "Encores$Tape" (80 : Nat)) "java/lang/String" "value" "[B") (Jvm.Term.int (56 : Int32))) (Jvm.Term.int (114 : Int32)),
 Jvm.Cond.eq (Jvm.Term.elem (Jvm.Term.field (Jvm.Term.string "Encores$Tape" (80 : Nat)) "java/lang/String" "value" "[B") (Jvm.Term.int (57 : Int32))) (Jvm.Term.int (115 : Int32)),
 Jvm.Cond.eq (Jvm.Term.elem (Jvm.Term.field (Jvm.Term.string "Encores$Tape" (80 : Nat)) "java/lang/String" "value" "[B") (Jvm.Term.int (58 : Int32))) (Jvm.Term.int (32 : Int32)),
 Jvm.Cond.eq (Jvm.Term.elem (Jvm.Term.field (Jvm.Term.string "Encores$Tape" (80 : Nat)) "java/lang/String" "value" "[B") (Jvm.Term.int (59 : Int32))) (Jvm.Term.int (112 : Int32)),
 Jvm.Cond.eq (Jvm.Term.elem (Jvm.Term.field (Jvm.Term.string "Encores$Tape" (80 : Nat)) "java/lang/String" "value" "[B") (Jvm.Term.int (60 : Int32))) (Jvm.Term.int (97 : Int32)),
 Jvm.Cond.eq (Jvm.Term.elem (Jvm.Term.field (Jvm.Term.string "Encores$Tape" (80 : Nat)) "java/lang/String" "value" "[B") (Jvm.Term.int (61 : Int32))) (Jvm.Term.int (105 : Int32)),
 Jvm.Cond.eq (Jvm.Term.elem (Jvm.Term.field (Jvm.Term.string "Encores$Tape" (80 : Nat)) "java/lang/String" "value" "[B") (Jvm.Term.int (62 : Int32))) (Jvm.Term.int (100 : Int32)),
 Jvm.Cond.eq (Jvm.Term.elem (Jvm.Term.field (Jvm.Term.string "Encores$Tape" (80 : Nat)) "java/lang/String" "value" "[B") (Jvm.Term.int (63 : Int32))) (Jvm.Term.int (32 : Int32)),
 Jvm.Cond.eq (Jvm.Term.elem (Jvm.Term.field (Jvm.Term.string "Encores$Tape" (80 : Nat)) "java/lang/String" "value" "[B") (Jvm.Term.int (64 : Int32))) (Jvm.Term.int (119 : Int32)),
 Jvm.Cond.eq (Jvm.Term.elem (Jvm.Term.field (Jvm.Term.string "Encores$Tape" (80 : Nat)) "java/lang/String" "value" "[B") (Jvm.Term.int (65 : Int32))) (Jvm.Term.int (111 : Int32)),
 Jvm.Cond.eq (Jvm.Term.elem (Jvm.Term.field (Jvm.Term.string "Encores$Tape" (80 : Nat)) "java/lang/String" "value" "[B") (Jvm.Term.int (66 : Int32))) (Jvm.Term.int (114 : Int32)),
 Jvm.Cond.eq (Jvm.Term.elem (Jvm.Term.field (Jvm.Term.string "Encores$Tape" (80 : Nat)) "java/lang/String" "value" "[B") (Jvm.Term.int (67 : Int32))) (Jvm.Term.int (116 : Int32)),
 Jvm.Cond.eq (Jvm.Term.elem (Jvm.Term.field (Jvm.Term.string "Encores$Tape" (80 : Nat)) "java/lang/String" "value" "[B") (Jvm.Term.int (68 : Int32))) (Jvm.Term.int (104 : Int32)),
 Jvm.Cond.eq (Jvm.Term.elem (Jvm.Term.field (Jvm.Term.string "Encores$Tape" (80 : Nat)) "java/lang/String" "value" "[B") (Jvm.Term.int (69 : Int32))) (Jvm.Term.int (32 : Int32)),
 Jvm.Cond.eq (Jvm.Term.elem (Jvm.Term.field (Jvm.Term.string "Encores$Tape" (80 : Nat)) "java/lang/String" "value" "[B") (Jvm.Term.int (70 : Int32))) (Jvm.Term.int (119 : Int32)),
 Jvm.Cond.eq (Jvm.Term.elem (Jvm.Term.field (Jvm.Term.string "Encores$Tape" (80 : Nat)) "java/lang/String" "value" "[B") (Jvm.Term.int (71 : Int32))) (Jvm.Term.int (101 : Int32)),
 Jvm.Cond.eq (Jvm.Term.elem (Jvm.Term.field (Jvm.Term.string "Encores$Tape" (80 : Nat)) "java/lang/String" "value" "[B") (Jvm.Term.int (72 : Int32))) (Jvm.Term.int (97 : Int32)),
 Jvm.Cond.eq (Jvm.Term.elem (Jvm.Term.field (Jvm.Term.string "Encores$Tape" (80 : Nat)) "java/lang/String" "value" "[B") (Jvm.Term.int (73 : Int32))) (Jvm.Term.int (114 : Int32)),
 Jvm.Cond.eq (Jvm.Term.elem (Jvm.Term.field (Jvm.Term.string "Encores$Tape" (80 : Nat)) "java/lang/String" "value" "[B") (Jvm.Term.int (74 : Int32))) (Jvm.Term.int (32 : Int32)),
 Jvm.Cond.eq (Jvm.Term.elem (Jvm.Term.field (Jvm.Term.string "Encores$Tape" (80 : Nat)) "java/lang/String" "value" "[B") (Jvm.Term.int (75 : Int32))) (Jvm.Term.int (97 : Int32)),
 Jvm.Cond.eq (Jvm.Term.elem (Jvm.Term.field (Jvm.Term.string "Encores$Tape" (80 : Nat)) "java/lang/String" "value" "[B") (Jvm.Term.int (76 : Int32))) (Jvm.Term.int (103 : Int32)),
 Jvm.Cond.eq (Jvm.Term.elem (Jvm.Term.field (Jvm.Term.string "Encores$Tape" (80 : Nat)) "java/lang/String" "value" "[B") (Jvm.Term.int (77 : Int32))) (Jvm.Term.int (97 : Int32)),
 Jvm.Cond.eq (Jvm.Term.elem (Jvm.Term.field (Jvm.Term.string "Encores$Tape" (80 : Nat)) "java/lang/String" "value" "[B") (Jvm.Term.int (78 : Int32))) (Jvm.Term.int (105 : Int32)),
 Jvm.Cond.eq (Jvm.Term.elem (Jvm.Term.field (Jvm.Term.string "Encores$Tape" (80 : Nat)) "java/lang/String" "value" "[B") (Jvm.Term.int (79 : Int32))) (Jvm.Term.int (110 : Int32)),
 Jvm.Cond.eq (Jvm.Term.elem (Jvm.Term.field (Jvm.Term.string "Encores$Tape" (80 : Nat)) "java/lang/String" "value" "[B") (Jvm.Term.int (80 : Int32))) (Jvm.Term.int (115 : Int32)),
 Jvm.Cond.eq (Jvm.Term.elem (Jvm.Term.field (Jvm.Term.string "Encores$Tape" (80 : Nat)) "java/lang/String" "value" "[B") (Jvm.Term.int (81 : Int32))) (Jvm.Term.int (32 : Int32)),
 Jvm.Cond.eq (Jvm.Term.elem (Jvm.Term.field (Jvm.Term.string "Encores$Tape" (80 : Nat)) "java/lang/String" "value" "[B") (Jvm.Term.int (82 : Int32))) (Jvm.Term.int (98 : Int32)),
 Jvm.Cond.eq (Jvm.Term.elem (Jvm.Term.field (Jvm.Term.string "Encores$Tape" (80 : Nat)) "java/lang/String" "value" "[B") (Jvm.Term.int (83 : Int32))) (Jvm.Term.int (101 : Int32)),
 Jvm.Cond.eq (Jvm.Term.elem (Jvm.Term.field (Jvm.Term.string "Encores$Tape" (80 : Nat)) "java/lang/String" "value" "[B") (Jvm.Term.int (84 : Int32))) (Jvm.Term.int (115 : Int32)),
 Jvm.Cond.eq (Jvm.Term.elem (Jvm.Term.field (Jvm.Term.string "Encores$Tape" (80 : Nat)) "java/lang/String" "value" "[B") (Jvm.Term.int (85 : Int32))) (Jvm.Term.int (105 : Int32)),
 Jvm.Cond.eq (Jvm.Term.elem (Jvm.Term.field (Jvm.Term.string "Encores$Tape" (80 : Nat)) "java/lang/String" "value" "[B") (Jvm.Term.int (86 : Int32))) (Jvm.Term.int (100 : Int32)),
 Jvm.Cond.eq (Jvm.Term.elem (Jvm.Term.field (Jvm.Term.string "Encores$Tape" (80 : Nat)) "java/lang/String" "value" "[B") (Jvm.Term.int (87 : Int32))) (Jvm.Term.int (101 : Int32)),
 Jvm.Cond.eq (Jvm.Term.elem (Jvm.Term.field (Jvm.Term.string "Encores$Tape" (80 : Nat)) "java/lang/String" "value" "[B") (Jvm.Term.int (88 : Int32))) (Jvm.Term.int (32 : Int32)),
 Jvm.Cond.eq (Jvm.Term.elem (Jvm.Term.field (Jvm.Term.string "Encores$Tape" (80 : Nat)) "java/lang/String" "value" "[B") (Jvm.Term.int (89 : Int32))) (Jvm.Term.int (108 : Int32)),
 Jvm.Cond.eq (Jvm.Term.elem (Jvm.Term.field (Jvm.Term.string "Encores$Tape" (80 : Nat)) "java/lang/String" "value" "[B") (Jvm.Term.int (90 : Int32))) (Jvm.Term.int (97 : Int32)),
 Jvm.Cond.eq (Jvm.Term.elem (Jvm.Term.field (Jvm.Term.string "Encores$Tape" (80 : Nat)) "java/lang/String" "value" "[B") (Jvm.Term.int (91 : Int32))) (Jvm.Term.int (116 : Int32)),
 Jvm.Cond.eq (Jvm.Term.elem (Jvm.Term.field (Jvm.Term.string "Encores$Tape" (80 : Nat)) "java/lang/String" "value" "[B") (Jvm.Term.int (92 : Int32))) (Jvm.Term.int (101 : Int32)),
 Jvm.Cond.eq (Jvm.Term.elem (Jvm.Term.field (Jvm.Term.string "Encores$Tape" (80 : Nat)) "java/lang/String" "value" "[B") (Jvm.Term.int (93 : Int32))) (Jvm.Term.int (32 : Int32)),
 Jvm.Cond.eq (Jvm.Term.elem (Jvm.Term.field (Jvm.Term.string "Encores$Tape" (80 : Nat)) "java/lang/String" "value" "[B") (Jvm.Term.int (94 : Int32))) (Jvm.Term.int (102 : Int32)),
 Jvm.Cond.eq (Jvm.Term.elem (Jvm.Term.field (Jvm.Term.string "Encores$Tape" (80 : Nat)) "java/lang/String" "value" "[B") (Jvm.Term.int (95 : Int32))) (Jvm.Term.int (114 : Int32)),
 Jvm.Cond.eq (Jvm.Term.elem (Jvm.Term.field (Jvm.Term.string "Encores$Tape" (80 : Nat)) "java/lang/String" "value" "[B") (Jvm.Term.int (96 : Int32))) (Jvm.Term.int (111 : Int32)),
 Jvm.Cond.eq (Jvm.Term.elem (Jvm.Term.field (Jvm.Term.string "Encores$Tape" (80 : Nat)) "java/lang/String" "value" "[B") (Jvm.Term.int (97 : Int32))) (Jvm.Term.int (109 : Int32)),
 Jvm.Cond.eq (Jvm.Term.elem (Jvm.Term.field (Jvm.Term.string "Encores$Tape" (80 : Nat)) "java/lang/String" "value" "[B") (Jvm.Term.int (98 : Int32))) (Jvm.Term.int (32 : Int32)),
 Jvm.Cond.eq (Jvm.Term.elem (Jvm.Term.field (Jvm.Term.string "Encores$Tape" (80 : Nat)) "java/lang/String" "value" "[B") (Jvm.Term.int (99 : Int32))) (Jvm.Term.int (109 : Int32)),
 Jvm.Cond.eq (Jvm.Term.elem (Jvm.Term.field (Jvm.Term.string "Encores$Tape" (80 : Nat)) "java/lang/String" "value" "[B") (Jvm.Term.int (100 : Int32))) (Jvm.Term.int (111 : Int32)),
 Jvm.Cond.eq (Jvm.Term.elem (Jvm.Term.field (Jvm.Term.string "Encores$Tape" (80 : Nat)) "java/lang/String" "value" "[B") (Jvm.Term.int (101 : Int32))) (Jvm.Term.int (115 : Int32)),
 Jvm.Cond.eq (Jvm.Term.elem (Jvm.Term.field (Jvm.Term.string "Encores$Tape" (80 : Nat)) "java/lang/String" "value" "[B") (Jvm.Term.int (102 : Int32))) (Jvm.Term.int (116 : Int32)),
 Jvm.Cond.eq (Jvm.Term.elem (Jvm.Term.field (Jvm.Term.string "Encores$Tape" (80 : Nat)) "java/lang/String" "value" "[B") (Jvm.Term.int (103 : Int32))) (Jvm.Term.int (32 : Int32)),
 Jvm.Cond.eq (Jvm.Term.elem (Jvm.Term.field (Jvm.Term.string "Encores$Tape" (80 : Nat)) "java/lang/String" "value" "[B") (Jvm.Term.int (104 : Int32))) (Jvm.Term.int (100 : Int32)),
 Jvm.Cond.eq (Jvm.Term.elem (Jvm.Term.field (Jvm.Term.string "Encores$Tape" (80 : Nat)) "java/lang/String" "value" "[B") (Jvm.Term.int (105 : Int32))) (Jvm.Term.int (111 : Int32)),
 Jvm.Cond.eq (Jvm.Term.elem (Jvm.Term.field (Jvm.Term.string "Encores$Tape" (80 : Nat)) "java/lang/String" "value" "[B") (Jvm.Term.int (106 : Int32))) (Jvm.Term.int (117 : Int32)),
 Jvm.Cond.eq (Jvm.Term.elem (Jvm.Term.field (Jvm.Term.string "Encores$Tape" (80 : Nat)) "java/lang/String" "value" "[B") (Jvm.Term.int (107 : Int32))) (Jvm.Term.int (98 : Int32)),
 Jvm.Cond.eq (Jvm.Term.elem (Jvm.Term.field (Jvm.Term.string "Encores$Tape" (80 : Nat)) "java/lang/String" "value" "[B") (Jvm.Term.int (108 : Int32))) (Jvm.Term.int (108 : Int32)),
 Jvm.Cond.eq (Jvm.Term.elem (Jvm.Term.field (Jvm.Term.string "Encores$Tape" (80 : Nat)) "java/lang/String" "value" "[B") (Jvm.Term.int (109 : Int32))) (Jvm.Term.int (101 : Int32)),
 Jvm.Cond.eq (Jvm.Term.elem (Jvm.Term.field (Jvm.Term.string "Encores$Tape" (80 : Nat)) "java/lang/String" "value" "[B") (Jvm.Term.int (110 : Int32))) (Jvm.Term.int (32 : Int32)),
 Jvm.Cond.eq (Jvm.Term.elem (Jvm.Term.field (Jvm.Term.string "Encores$Tape" (80 : Nat)) "java/lang/String" "value" "[B") (Jvm.Term.int (111 : Int32))) (Jvm.Term.int (101 : Int32)),
 Jvm.Cond.eq (Jvm.Term.elem (Jvm.Term.field (Jvm.Term.string "Encores$Tape" (80 : Nat)) "java/lang/String" "value" "[B") (Jvm.Term.int (112 : Int32))) (Jvm.Term.int (110 : Int32)),
 Jvm.Cond.eq (Jvm.Term.elem (Jvm.Term.field (Jvm.Term.string "Encores$Tape" (80 : Nat)) "java/lang/String" "value" "[B") (Jvm.Term.int (113 : Int32))) (Jvm.Term.int (100 : Int32)),
 Jvm.Cond.eq (Jvm.Term.elem (Jvm.Term.field (Jvm.Term.string "Encores$Tape" (80 : Nat)) "java/lang/String" "value" "[B") (Jvm.Term.int (114 : Int32))) (Jvm.Term.int (32 : Int32)),
 Jvm.Cond.eq (Jvm.Term.elem (Jvm.Term.field (Jvm.Term.string "Encores$Tape" (80 : Nat)) "java/lang/String" "value" "[B") (Jvm.Term.int (115 : Int32))) (Jvm.Term.int (97 : Int32)),
 Jvm.Cond.eq (Jvm.Term.elem (Jvm.Term.field (Jvm.Term.string "Encores$Tape" (80 : Nat)) "java/lang/String" "value" "[B") (Jvm.Term.int (116 : Int32))) (Jvm.Term.int (116 : Int32)),
 Jvm.Cond.eq (Jvm.Term.elem (Jvm.Term.field (Jvm.Term.string "Encores$Tape" (80 : Nat)) "java/lang/String" "value" "[B") (Jvm.Term.int (117 : Int32))) (Jvm.Term.int (32 : Int32)),
 Jvm.Cond.eq (Jvm.Term.elem (Jvm.Term.field (Jvm.Term.string "Encores$Tape" (80 : Nat)) "java/lang/String" "value" "[B") (Jvm.Term.int (118 : Int32))) (Jvm.Term.int (100 : Int32)),
 Jvm.Cond.eq (Jvm.Term.elem (Jvm.Term.field (Jvm.Term.string "Encores$Tape" (80 : Nat)) "java/lang/String" "value" "[B") (Jvm.Term.int (119 : Int32))) (Jvm.Term.int (101 : Int32)),
 Jvm.Cond.eq (Jvm.Term.elem (Jvm.Term.field (Jvm.Term.string "Encores$Tape" (80 : Nat)) "java/lang/String" "value" "[B") (Jvm.Term.int (120 : Int32))) (Jvm.Term.int (101 : Int32)),
 Jvm.Cond.eq (Jvm.Term.elem (Jvm.Term.field (Jvm.Term.string "Encores$Tape" (80 : Nat)) "java/lang/String" "value" "[B") (Jvm.Term.int (121 : Int32))) (Jvm.Term.int (100 : Int32)),
 Jvm.Cond.eq (Jvm.Term.elem (Jvm.Term.field (Jvm.Term.string "Encores$Tape" (80 : Nat)) "java/lang/String" "value" "[B") (Jvm.Term.int (122 : Int32))) (Jvm.Term.int (32 : Int32)),
 Jvm.Cond.not (Jvm.Cond.eq (Jvm.Term.string "EncoresLaw" (68 : Nat)) (Jvm.Term.string "Encores$Tape" (80 : Nat))),
 Jvm.Cond.not (Jvm.Cond.eq (Jvm.Term.string "EncoresLaw" (77 : Nat)) (Jvm.Term.string "Encores$Tape" (80 : Nat))),
 Jvm.Cond.not (Jvm.Cond.eq (Jvm.Term.string "EncoresLaw" (79 : Nat)) (Jvm.Term.string "Encores$Tape" (80 : Nat))),
 Jvm.Cond.not (Jvm.Cond.eq (Jvm.Term.string "EncoresLaw" (85 : Nat)) (Jvm.Term.string "Encores$Tape" (80 : Nat))),
 Jvm.Cond.not (Jvm.Cond.eq (Jvm.Term.string "EncoresLaw" (87 : Nat)) (Jvm.Term.string "Encores$Tape" (80 : Nat))),
 Jvm.Cond.not (Jvm.Cond.eq (Jvm.Term.string "EncoresLaw" (89 : Nat)) (Jvm.Term.string "Encores$Tape" (80 : Nat))),
 Jvm.Cond.exactly (Jvm.Term.string "EncoresLaw" (109 : Nat)) "java/lang/String",
 Jvm.Cond.eq (Jvm.Term.field (Jvm.Term.string "EncoresLaw" (109 : Nat)) "java/lang/String" "coder" "B") (Jvm.Term.int (0 : Int32)),
 Jvm.Cond.arrayOf (Jvm.Term.field (Jvm.Term.string "EncoresLaw" (109 : Nat)) "java/lang/String" "value" "[B") Jvm.ClassFile.FieldType.byte,
 Jvm.Cond.eq (Jvm.Term.length (Jvm.Term.field (Jvm.Term.string "EncoresLaw" (109 : Nat)) "java/lang/String" "value" "[B")) (Jvm.Term.int (3 : Int32)),
 Jvm.Cond.eq (Jvm.Term.elem (Jvm.Term.field (Jvm.Term.string "EncoresLaw" (109 : Nat)) "java/lang/String" "value" "[B") (Jvm.Term.int (0 : Int32))) (Jvm.Term.int (97 : Int32)),
 Jvm.Cond.eq (Jvm.Term.elem (Jvm.Term.field (Jvm.Term.string "EncoresLaw" (109 : Nat)) "java/lang/String" "value" "[B") (Jvm.Term.int (1 : Int32))) (Jvm.Term.int (116 : Int32)),
 Jvm.Cond.eq (Jvm.Term.elem (Jvm.Term.field (Jvm.Term.string "EncoresLaw" (109 : Nat)) "java/lang/String" "value" "[B") (Jvm.Term.int (2 : Int32))) (Jvm.Term.int (32 : Int32)),
 Jvm.Cond.not (Jvm.Cond.eq (Jvm.Term.string "EncoresLaw" (68 : Nat)) (Jvm.Term.string "EncoresLaw" (109 : Nat))),
 Jvm.Cond.not (Jvm.Cond.eq (Jvm.Term.string "EncoresLaw" (77 : Nat)) (Jvm.Term.string "EncoresLaw" (109 : Nat))),
 Jvm.Cond.not (Jvm.Cond.eq (Jvm.Term.string "EncoresLaw" (79 : Nat)) (Jvm.Term.string "EncoresLaw" (109 : Nat))),
 Jvm.Cond.not (Jvm.Cond.eq (Jvm.Term.string "EncoresLaw" (85 : Nat)) (Jvm.Term.string "EncoresLaw" (109 : Nat))),
 Jvm.Cond.not (Jvm.Cond.eq (Jvm.Term.string "EncoresLaw" (87 : Nat)) (Jvm.Term.string "EncoresLaw" (109 : Nat))),
 Jvm.Cond.not (Jvm.Cond.eq (Jvm.Term.string "EncoresLaw" (89 : Nat)) (Jvm.Term.string "EncoresLaw" (109 : Nat))),
 Jvm.Cond.not (Jvm.Cond.eq (Jvm.Term.string "Encores$Tape" (80 : Nat)) (Jvm.Term.string "EncoresLaw" (109 : Nat))),
 Jvm.Cond.exactly (Jvm.Term.string "EncoresLaw" (111 : Nat)) "java/lang/String",
 Jvm.Cond.eq (Jvm.Term.field (Jvm.Term.string "EncoresLaw" (111 : Nat)) "java/lang/String" "coder" "B") (Jvm.Term.int (0 : Int32)),
 Jvm.Cond.arrayOf (Jvm.Term.field (Jvm.Term.string "EncoresLaw" (111 : Nat)) "java/lang/String" "value" "[B") Jvm.ClassFile.FieldType.byte,
 Jvm.Cond.eq (Jvm.Term.length (Jvm.Term.field (Jvm.Term.string "EncoresLaw" (111 : Nat)) "java/lang/String" "value" "[B")) (Jvm.Term.int (6 : Int32)),
 Jvm.Cond.eq (Jvm.Term.elem (Jvm.Term.field (Jvm.Term.string "EncoresLaw" (111 : Nat)) "java/lang/String" "value" "[B") (Jvm.Term.int (0 : Int32))) (Jvm.Term.int (32 : Int32)),
 Jvm.Cond.eq (Jvm.Term.elem (Jvm.Term.field (Jvm.Term.string "EncoresLaw" (111 : Nat)) "java/lang/String" "value" "[B") (Jvm.Term.int (1 : Int32))) (Jvm.Term.int (100 : Int32)),
 Jvm.Cond.eq (Jvm.Term.elem (Jvm.Term.field (Jvm.Term.string "EncoresLaw" (111 : Nat)) "java/lang/String" "value" "[B") (Jvm.Term.int (2 : Int32))) (Jvm.Term.int (101 : Int32)),
 Jvm.Cond.eq (Jvm.Term.elem (Jvm.Term.field (Jvm.Term.string "EncoresLaw" (111 : Nat)) "java/lang/String" "value" "[B") (Jvm.Term.int (3 : Int32))) (Jvm.Term.int (101 : Int32)),
 Jvm.Cond.eq (Jvm.Term.elem (Jvm.Term.field (Jvm.Term.string "EncoresLaw" (111 : Nat)) "java/lang/String" "value" "[B") (Jvm.Term.int (4 : Int32))) (Jvm.Term.int (100 : Int32)),
 Jvm.Cond.eq (Jvm.Term.elem (Jvm.Term.field (Jvm.Term.string "EncoresLaw" (111 : Nat)) "java/lang/String" "value" "[B") (Jvm.Term.int (5 : Int32))) (Jvm.Term.int (32 : Int32)),
 Jvm.Cond.not (Jvm.Cond.eq (Jvm.Term.string "EncoresLaw" (68 : Nat)) (Jvm.Term.string "EncoresLaw" (111 : Nat))),
 Jvm.Cond.not (Jvm.Cond.eq (Jvm.Term.string "EncoresLaw" (77 : Nat)) (Jvm.Term.string "EncoresLaw" (111 : Nat))),
 Jvm.Cond.not (Jvm.Cond.eq (Jvm.Term.string "EncoresLaw" (79 : Nat)) (Jvm.Term.string "EncoresLaw" (111 : Nat))),
 Jvm.Cond.not (Jvm.Cond.eq (Jvm.Term.string "EncoresLaw" (85 : Nat)) (Jvm.Term.string "EncoresLaw" (111 : Nat))),
 Jvm.Cond.not (Jvm.Cond.eq (Jvm.Term.string "EncoresLaw" (87 : Nat)) (Jvm.Term.string "EncoresLaw" (111 : Nat))),
 Jvm.Cond.not (Jvm.Cond.eq (Jvm.Term.string "EncoresLaw" (89 : Nat)) (Jvm.Term.string "EncoresLaw" (111 : Nat))),
 Jvm.Cond.not (Jvm.Cond.eq (Jvm.Term.string "Encores$Tape" (80 : Nat)) (Jvm.Term.string "EncoresLaw" (111 : Nat))),
 Jvm.Cond.not (Jvm.Cond.eq (Jvm.Term.string "EncoresLaw" (109 : Nat)) (Jvm.Term.string "EncoresLaw" (111 : Nat))),
 Jvm.Cond.exactly (Jvm.Term.string "EncoresLaw" (119 : Nat)) "java/lang/String",
 Jvm.Cond.eq (Jvm.Term.field (Jvm.Term.string "EncoresLaw" (119 : Nat)) "java/lang/String" "coder" "B") (Jvm.Term.int (0 : Int32)),
 Jvm.Cond.arrayOf (Jvm.Term.field (Jvm.Term.string "EncoresLaw" (119 : Nat)) "java/lang/String" "value" "[B") Jvm.ClassFile.FieldType.byte,
 Jvm.Cond.eq (Jvm.Term.length (Jvm.Term.field (Jvm.Term.string "EncoresLaw" (119 : Nat)) "java/lang/String" "value" "[B")) (Jvm.Term.int (7 : Int32)),
 Jvm.Cond.eq (Jvm.Term.elem (Jvm.Term.field (Jvm.Term.string "EncoresLaw" (119 : Nat)) "java/lang/String" "value" "[B") (Jvm.Term.int (0 : Int32))) (Jvm.Term.int (104 : Int32)),
 Jvm.Cond.eq (Jvm.Term.elem (Jvm.Term.field (Jvm.Term.string "EncoresLaw" (119 : Nat)) "java/lang/String" "value" "[B") (Jvm.Term.int (1 : Int32))) (Jvm.Term.int (101 : Int32)),
 Jvm.Cond.eq (Jvm.Term.elem (Jvm.Term.field (Jvm.Term.string "EncoresLaw" (119 : Nat)) "java/lang/String" "value" "[B") (Jvm.Term.int (2 : Int32))) (Jvm.Term.int (97 : Int32)),
 Jvm.Cond.eq (Jvm.Term.elem (Jvm.Term.field (Jvm.Term.string "EncoresLaw" (119 : Nat)) "java/lang/String" "value" "[B") (Jvm.Term.int (3 : Int32))) (Jvm.Term.int (114 : Int32)),
 Jvm.Cond.eq (Jvm.Term.elem (Jvm.Term.field (Jvm.Term.string "EncoresLaw" (119 : Nat)) "java/lang/String" "value" "[B") (Jvm.Term.int (4 : Int32))) (Jvm.Term.int (101 : Int32)),
 Jvm.Cond.eq (Jvm.Term.elem (Jvm.Term.field (Jvm.Term.string "EncoresLaw" (119 : Nat)) "java/lang/String" "value" "[B") (Jvm.Term.int (5 : Int32))) (Jvm.Term.int (114 : Int32)),
 Jvm.Cond.eq (Jvm.Term.elem (Jvm.Term.field (Jvm.Term.string "EncoresLaw" (119 : Nat)) "java/lang/String" "value" "[B") (Jvm.Term.int (6 : Int32))) (Jvm.Term.int (32 : Int32)),
 Jvm.Cond.not (Jvm.Cond.eq (Jvm.Term.string "EncoresLaw" (68 : Nat)) (Jvm.Term.string "EncoresLaw" (119 : Nat))),
 Jvm.Cond.not (Jvm.Cond.eq (Jvm.Term.string "EncoresLaw" (77 : Nat)) (Jvm.Term.string "EncoresLaw" (119 : Nat))),
 Jvm.Cond.not (Jvm.Cond.eq (Jvm.Term.string "EncoresLaw" (79 : Nat)) (Jvm.Term.string "EncoresLaw" (119 : Nat))),
 Jvm.Cond.not (Jvm.Cond.eq (Jvm.Term.string "EncoresLaw" (85 : Nat)) (Jvm.Term.string "EncoresLaw" (119 : Nat))),
 Jvm.Cond.not (Jvm.Cond.eq (Jvm.Term.string "EncoresLaw" (87 : Nat)) (Jvm.Term.string "EncoresLaw" (119 : Nat))),
 Jvm.Cond.not (Jvm.Cond.eq (Jvm.Term.string "EncoresLaw" (89 : Nat)) (Jvm.Term.string "EncoresLaw" (119 : Nat))),
 Jvm.Cond.not (Jvm.Cond.eq (Jvm.Term.string "Encores$Tape" (80 : Nat)) (Jvm.Term.string "EncoresLaw" (119 : Nat))),
 Jvm.Cond.not (Jvm.Cond.eq (Jvm.Term.string "EncoresLaw" (109 : Nat)) (Jvm.Term.string "EncoresLaw" (119 : Nat))),
 Jvm.Cond.not (Jvm.Cond.eq (Jvm.Term.string "EncoresLaw" (111 : Nat)) (Jvm.Term.string "EncoresLaw" (119 : Nat))),
 Jvm.Cond.exactly (Jvm.Term.string "EncoresLaw" (121 : Nat)) "java/lang/String",
 Jvm.Cond.eq (Jvm.Term.field (Jvm.Term.string "EncoresLaw" (121 : Nat)) "java/lang/String" "coder" "B") (Jvm.Term.int (0 : Int32)),
 Jvm.Cond.arrayOf (Jvm.Term.field (Jvm.Term.string "EncoresLaw" (121 : Nat)) "java/lang/String" "value" "[B") Jvm.ClassFile.FieldType.byte,
 Jvm.Cond.eq (Jvm.Term.length (Jvm.Term.field (Jvm.Term.string "EncoresLaw" (121 : Nat)) "java/lang/String" "value" "[B")) (Jvm.Term.int (8 : Int32)),
 Jvm.Cond.eq (Jvm.Term.elem (Jvm.Term.field (Jvm.Term.string "EncoresLaw" (121 : Nat)) "java/lang/String" "value" "[B") (Jvm.Term.int (0 : Int32))) (Jvm.Term.int (32 : Int32)),
 Jvm.Cond.eq (Jvm.Term.elem (Jvm.Term.field (Jvm.Term.string "EncoresLaw" (121 : Nat)) "java/lang/String" "value" "[B") (Jvm.Term.int (1 : Int32))) (Jvm.Term.int (98 : Int32)),
 Jvm.Cond.eq (Jvm.Term.elem (Jvm.Term.field (Jvm.Term.string "EncoresLaw" (121 : Nat)) "java/lang/String" "value" "[B") (Jvm.Term.int (2 : Int32))) (Jvm.Term.int (101 : Int32)),
 Jvm.Cond.eq (Jvm.Term.elem (Jvm.Term.field (Jvm.Term.string "EncoresLaw" (121 : Nat)) "java/lang/String" "value" "[B") (Jvm.Term.int (3 : Int32))) (Jvm.Term.int (115 : Int32)),
 Jvm.Cond.eq (Jvm.Term.elem (Jvm.Term.field (Jvm.Term.string "EncoresLaw" (121 : Nat)) "java/lang/String" "value" "[B") (Jvm.Term.int (4 : Int32))) (Jvm.Term.int (105 : Int32)),
 Jvm.Cond.eq (Jvm.Term.elem (Jvm.Term.field (Jvm.Term.string "EncoresLaw" (121 : Nat)) "java/lang/String" "value" "[B") (Jvm.Term.int (5 : Int32))) (Jvm.Term.int (100 : Int32)),
 Jvm.Cond.eq (Jvm.Term.elem (Jvm.Term.field (Jvm.Term.string "EncoresLaw" (121 : Nat)) "java/lang/String" "value" "[B") (Jvm.Term.int (6 : Int32))) (Jvm.Term.int (101 : Int32)),
 Jvm.Cond.eq (Jvm.Term.elem (Jvm.Term.field (Jvm.Term.string "EncoresLaw" (121 : Nat)) "java/lang/String" "value" "[B") (Jvm.Term.int (7 : Int32))) (Jvm.Term.int (32 : Int32)),
 Jvm.Cond.not (Jvm.Cond.eq (Jvm.Term.string "EncoresLaw" (68 : Nat)) (Jvm.Term.string "EncoresLaw" (121 : Nat))),
 Jvm.Cond.not (Jvm.Cond.eq (Jvm.Term.string "EncoresLaw" (77 : Nat)) (Jvm.Term.string "EncoresLaw" (121 : Nat))),
 Jvm.Cond.not (Jvm.Cond.eq (Jvm.Term.string "EncoresLaw" (79 : Nat)) (Jvm.Term.string "EncoresLaw" (121 : Nat))),
 Jvm.Cond.not (Jvm.Cond.eq (Jvm.Term.string "EncoresLaw" (85 : Nat)) (Jvm.Term.string "EncoresLaw" (121 : Nat))),
 Jvm.Cond.not (Jvm.Cond.eq (Jvm.Term.string "EncoresLaw" (87 : Nat)) (Jvm.Term.string "EncoresLaw" (121 : Nat))),
 Jvm.Cond.not (Jvm.Cond.eq (Jvm.Term.string "EncoresLaw" (89 : Nat)) (Jvm.Term.string "EncoresLaw" (121 : Nat))),
 Jvm.Cond.not (Jvm.Cond.eq (Jvm.Term.string "Encores$Tape" (80 : Nat)) (Jvm.Term.string "EncoresLaw" (121 : Nat))),
 Jvm.Cond.not (Jvm.Cond.eq (Jvm.Term.string "EncoresLaw" (109 : Nat)) (Jvm.Term.string "EncoresLaw" (121 : Nat))),
 Jvm.Cond.not (Jvm.Cond.eq (Jvm.Term.string "EncoresLaw" (111 : Nat)) (Jvm.Term.string "EncoresLaw" (121 : Nat))),
 Jvm.Cond.not (Jvm.Cond.eq (Jvm.Term.string "EncoresLaw" (119 : Nat)) (Jvm.Term.string "EncoresLaw" (121 : Nat))),
 Jvm.Cond.exactly (Jvm.Term.string "EncoresLaw" (131 : Nat)) "java/lang/String",
 Jvm.Cond.eq (Jvm.Term.field (Jvm.Term.string "EncoresLaw" (131 : Nat)) "java/lang/String" "coder" "B") (Jvm.Term.int (0 : Int32)),
 Jvm.Cond.arrayOf (Jvm.Term.field (Jvm.Term.string "EncoresLaw" (131 : Nat)) "java/lang/String" "value" "[B") Jvm.ClassFile.FieldType.byte,
 Jvm.Cond.eq (Jvm.Term.length (Jvm.Term.field (Jvm.Term.string "EncoresLaw" (131 : Nat)) "java/lang/String" "value" "[B")) (Jvm.Term.int (11 : Int32)),
 Jvm.Cond.eq (Jvm.Term.elem (Jvm.Term.field (Jvm.Term.string "EncoresLaw" (131 : Nat)) "java/lang/String" "value" "[B") (Jvm.Term.int (0 : Int32))) (Jvm.Term.int (108 : Int32)),
 Jvm.Cond.eq (Jvm.Term.elem (Jvm.Term.field (Jvm.Term.string "EncoresLaw" (131 : Nat)) "java/lang/String" "value" "[B") (Jvm.Term.int (1 : Int32))) (Jvm.Term.int (111 : Int32)),
 Jvm.Cond.eq (Jvm.Term.elem (Jvm.Term.field (Jvm.Term.string "EncoresLaw" (131 : Nat)) "java/lang/String" "value" "[B") (Jvm.Term.int (2 : Int32))) (Jvm.Term.int (117 : Int32)),
 Jvm.Cond.eq (Jvm.Term.elem (Jvm.Term.field (Jvm.Term.string "EncoresLaw" (131 : Nat)) "java/lang/String" "value" "[B") (Jvm.Term.int (3 : Int32))) (Jvm.Term.int (100 : Int32)),
 Jvm.Cond.eq (Jvm.Term.elem (Jvm.Term.field (Jvm.Term.string "EncoresLaw" (131 : Nat)) "java/lang/String" "value" "[B") (Jvm.Term.int (4 : Int32))) (Jvm.Term.int (32 : Int32)),
 Jvm.Cond.eq (Jvm.Term.elem (Jvm.Term.field (Jvm.Term.string "EncoresLaw" (131 : Nat)) "java/lang/String" "value" "[B") (Jvm.Term.int (5 : Int32))) (Jvm.Term.int (119 : Int32)),
 Jvm.Cond.eq (Jvm.Term.elem (Jvm.Term.field (Jvm.Term.string "EncoresLaw" (131 : Nat)) "java/lang/String" "value" "[B") (Jvm.Term.int (6 : Int32))) (Jvm.Term.int (111 : Int32)),
 Jvm.Cond.eq (Jvm.Term.elem (Jvm.Term.field (Jvm.Term.string "EncoresLaw" (131 : Nat)) "java/lang/String" "value" "[B") (Jvm.Term.int (7 : Int32))) (Jvm.Term.int (114 : Int32)),
 Jvm.Cond.eq (Jvm.Term.elem (Jvm.Term.field (Jvm.Term.string "EncoresLaw" (131 : Nat)) "java/lang/String" "value" "[B") (Jvm.Term.int (8 : Int32))) (Jvm.Term.int (116 : Int32)),
 Jvm.Cond.eq (Jvm.Term.elem (Jvm.Term.field (Jvm.Term.string "EncoresLaw" (131 : Nat)) "java/lang/String" "value" "[B") (Jvm.Term.int (9 : Int32))) (Jvm.Term.int (104 : Int32)),
 Jvm.Cond.eq (Jvm.Term.elem (Jvm.Term.field (Jvm.Term.string "EncoresLaw" (131 : Nat)) "java/lang/String" "value" "[B") (Jvm.Term.int (10 : Int32))) (Jvm.Term.int (42 : Int32)),
 Jvm.Cond.not (Jvm.Cond.eq (Jvm.Term.string "EncoresLaw" (68 : Nat)) (Jvm.Term.string "EncoresLaw" (131 : Nat))),
 Jvm.Cond.not (Jvm.Cond.eq (Jvm.Term.string "EncoresLaw" (77 : Nat)) (Jvm.Term.string "EncoresLaw" (131 : Nat))),
 Jvm.Cond.not (Jvm.Cond.eq (Jvm.Term.string "EncoresLaw" (79 : Nat)) (Jvm.Term.string "EncoresLaw" (131 : Nat))),
 Jvm.Cond.not (Jvm.Cond.eq (Jvm.Term.string "EncoresLaw" (85 : Nat)) (Jvm.Term.string "EncoresLaw" (131 : Nat))),
 Jvm.Cond.not (Jvm.Cond.eq (Jvm.Term.string "EncoresLaw" (87 : Nat)) (Jvm.Term.string "EncoresLaw" (131 : Nat))),
 Jvm.Cond.not (Jvm.Cond.eq (Jvm.Term.string "EncoresLaw" (89 : Nat)) (Jvm.Term.string "EncoresLaw" (131 : Nat))),
 Jvm.Cond.not (Jvm.Cond.eq (Jvm.Term.string "Encores$Tape" (80 : Nat)) (Jvm.Term.string "EncoresLaw" (131 : Nat))),
 Jvm.Cond.not (Jvm.Cond.eq (Jvm.Term.string "EncoresLaw" (109 : Nat)) (Jvm.Term.string "EncoresLaw" (131 : Nat))),
 Jvm.Cond.not (Jvm.Cond.eq (Jvm.Term.string "EncoresLaw" (111 : Nat)) (Jvm.Term.string "EncoresLaw" (131 : Nat))),
 Jvm.Cond.not (Jvm.Cond.eq (Jvm.Term.string "EncoresLaw" (119 : Nat)) (Jvm.Term.string "EncoresLaw" (131 : Nat))),
 Jvm.Cond.not (Jvm.Cond.eq (Jvm.Term.string "EncoresLaw" (121 : Nat)) (Jvm.Term.string "EncoresLaw" (131 : Nat))),
 Jvm.Cond.exactly (Jvm.Term.string "EncoresLaw" (133 : Nat)) "java/lang/String",
 Jvm.Cond.eq (Jvm.Term.field (Jvm.Term.string "EncoresLaw" (133 : Nat)) "java/lang/String" "coder" "B") (Jvm.Term.int (0 : Int32)),
 Jvm.Cond.arrayOf (Jvm.Term.field (Jvm.Term.string "EncoresLaw" (133 : Nat)) "java/lang/String" "value" "[B") Jvm.ClassFile.FieldType.byte,
 Jvm.Cond.eq (Jvm.Term.length (Jvm.Term.field (Jvm.Term.string "EncoresLaw" (133 : Nat)) "java/lang/String" "value" "[B")) (Jvm.Term.int (18 : Int32)),
 Jvm.Cond.eq (Jvm.Term.elem (Jvm.Term.field (Jvm.Term.string "EncoresLaw" (133 : Nat)) "java/lang/String" "value" "[B") (Jvm.Term.int (0 : Int32))) (Jvm.Term.int (45 : Int32)),
 Jvm.Cond.eq (Jvm.Term.elem (Jvm.Term.field (Jvm.Term.string "EncoresLaw" (133 : Nat)) "java/lang/String" "value" "[B") (Jvm.Term.int (1 : Int32))) (Jvm.Term.int (97 : Int32)),
 Jvm.Cond.eq (Jvm.Term.elem (Jvm.Term.field (Jvm.Term.string "EncoresLaw" (133 : Nat)) "java/lang/String" "value" "[B") (Jvm.Term.int (2 : Int32))) (Jvm.Term.int (103 : Int32)),
 Jvm.Cond.eq (Jvm.Term.elem (Jvm.Term.field (Jvm.Term.string "EncoresLaw" (133 : Nat)) "java/lang/String" "value" "[B") (Jvm.Term.int (3 : Int32))) (Jvm.Term.int (97 : Int32)),
 Jvm.Cond.eq (Jvm.Term.elem (Jvm.Term.field (Jvm.Term.string "EncoresLaw" (133 : Nat)) "java/lang/String" "value" "[B") (Jvm.Term.int (4 : Int32))) (Jvm.Term.int (105 : Int32)),
 Jvm.Cond.eq (Jvm.Term.elem (Jvm.Term.field (Jvm.Term.string "EncoresLaw" (133 : Nat)) "java/lang/String" "value" "[B") (Jvm.Term.int (5 : Int32))) (Jvm.Term.int (110 : Int32)),
 Jvm.Cond.eq (Jvm.Term.elem (Jvm.Term.field (Jvm.Term.string "EncoresLaw" (133 : Nat)) "java/lang/String" "value" "[B") (Jvm.Term.int (6 : Int32))) (Jvm.Term.int (115 : Int32)),
 Jvm.Cond.eq (Jvm.Term.elem (Jvm.Term.field (Jvm.Term.string "EncoresLaw" (133 : Nat)) "java/lang/String" "value" "[B") (Jvm.Term.int (7 : Int32))) (Jvm.Term.int (45 : Int32)),
 Jvm.Cond.eq (Jvm.Term.elem (Jvm.Term.field (Jvm.Term.string "EncoresLaw" (133 : Nat)) "java/lang/String" "value" "[B") (Jvm.Term.int (8 : Int32))) (Jvm.Term.int (108 : Int32)),
 Jvm.Cond.eq (Jvm.Term.elem (Jvm.Term.field (Jvm.Term.string "EncoresLaw" (133 : Nat)) "java/lang/String" "value" "[B") (Jvm.Term.int (9 : Int32))) (Jvm.Term.int (97 : Int32)),
 Jvm.Cond.eq (Jvm.Term.elem (Jvm.Term.field (Jvm.Term.string "EncoresLaw" (133 : Nat)) "java/lang/String" "value" "[B") (Jvm.Term.int (10 : Int32))) (Jvm.Term.int (116 : Int32)),
 Jvm.Cond.eq (Jvm.Term.elem (Jvm.Term.field (Jvm.Term.string "EncoresLaw" (133 : Nat)) "java/lang/String" "value" "[B") (Jvm.Term.int (11 : Int32))) (Jvm.Term.int (101 : Int32)),
 Jvm.Cond.eq (Jvm.Term.elem (Jvm.Term.field (Jvm.Term.string "EncoresLaw" (133 : Nat)) "java/lang/String" "value" "[B") (Jvm.Term.int (12 : Int32))) (Jvm.Term.int (59 : Int32)),
 Jvm.Cond.eq (Jvm.Term.elem (Jvm.Term.field (Jvm.Term.string "EncoresLaw" (133 : Nat)) "java/lang/String" "value" "[B") (Jvm.Term.int (13 : Int32))) (Jvm.Term.int (99 : Int32)),
 Jvm.Cond.eq (Jvm.Term.elem (Jvm.Term.field (Jvm.Term.string "EncoresLaw" (133 : Nat)) "java/lang/String" "value" "[B") (Jvm.Term.int (14 : Int32))) (Jvm.Term.int (108 : Int32)),
 Jvm.Cond.eq (Jvm.Term.elem (Jvm.Term.field (Jvm.Term.string "EncoresLaw" (133 : Nat)) "java/lang/String" "value" "[B") (Jvm.Term.int (15 : Int32))) (Jvm.Term.int (97 : Int32)),
 Jvm.Cond.eq (Jvm.Term.elem (Jvm.Term.field (Jvm.Term.string "EncoresLaw" (133 : Nat)) "java/lang/String" "value" "[B") (Jvm.Term.int (16 : Int32))) (Jvm.Term.int (112 : Int32)),
 Jvm.Cond.eq (Jvm.Term.elem (Jvm.Term.field (Jvm.Term.string "EncoresLaw" (133 : Nat)) "java/lang/String" "value" "[B") (Jvm.Term.int (17 : Int32))) (Jvm.Term.int (32 : Int32)),
 Jvm.Cond.not (Jvm.Cond.eq (Jvm.Term.string "EncoresLaw" (68 : Nat)) (Jvm.Term.string "EncoresLaw" (133 : Nat))),
 Jvm.Cond.not (Jvm.Cond.eq (Jvm.Term.string "EncoresLaw" (77 : Nat)) (Jvm.Term.string "EncoresLaw" (133 : Nat))),
 Jvm.Cond.not (Jvm.Cond.eq (Jvm.Term.string "EncoresLaw" (79 : Nat)) (Jvm.Term.string "EncoresLaw" (133 : Nat))),
 Jvm.Cond.not (Jvm.Cond.eq (Jvm.Term.string "EncoresLaw" (85 : Nat)) (Jvm.Term.string "EncoresLaw" (133 : Nat))),
 Jvm.Cond.not (Jvm.Cond.eq (Jvm.Term.string "EncoresLaw" (87 : Nat)) (Jvm.Term.string "EncoresLaw" (133 : Nat))),
 Jvm.Cond.not (Jvm.Cond.eq (Jvm.Term.string "EncoresLaw" (89 : Nat)) (Jvm.Term.string "EncoresLaw" (133 : Nat))),
 Jvm.Cond.not (Jvm.Cond.eq (Jvm.Term.string "Encores$Tape" (80 : Nat)) (Jvm.Term.string "EncoresLaw" (133 : Nat))),
 Jvm.Cond.not (Jvm.Cond.eq (Jvm.Term.string "EncoresLaw" (109 : Nat)) (Jvm.Term.string "EncoresLaw" (133 : Nat))),
 Jvm.Cond.not (Jvm.Cond.eq (Jvm.Term.string "EncoresLaw" (111 : Nat)) (Jvm.Term.string "EncoresLaw" (133 : Nat))),
 Jvm.Cond.not (Jvm.Cond.eq (Jvm.Term.string "EncoresLaw" (119 : Nat)) (Jvm.Term.string "EncoresLaw" (133 : Nat))),
 Jvm.Cond.not (Jvm.Cond.eq (Jvm.Term.string "EncoresLaw" (121 : Nat)) (Jvm.Term.string "EncoresLaw" (133 : Nat))),
 Jvm.Cond.not (Jvm.Cond.eq (Jvm.Term.string "EncoresLaw" (131 : Nat)) (Jvm.Term.string "EncoresLaw" (133 : Nat))),
 Jvm.Cond.exactly (Jvm.Term.string "EncoresLaw" (135 : Nat)) "java/lang/String",
 Jvm.Cond.eq (Jvm.Term.field (Jvm.Term.string "EncoresLaw" (135 : Nat)) "java/lang/String" "coder" "B") (Jvm.Term.int (0 : Int32)),
 Jvm.Cond.arrayOf (Jvm.Term.field (Jvm.Term.string "EncoresLaw" (135 : Nat)) "java/lang/String" "value" "[B") Jvm.ClassFile.FieldType.byte,
 Jvm.Cond.eq (Jvm.Term.length (Jvm.Term.field (Jvm.Term.string "EncoresLaw" (135 : Nat)) "java/lang/String" "value" "[B")) (Jvm.Term.int (30 : Int32)),
 Jvm.Cond.eq (Jvm.Term.elem (Jvm.Term.field (Jvm.Term.string "EncoresLaw" (135 : Nat)) "java/lang/String" "value" "[B") (Jvm.Term.int (0 : Int32))) (Jvm.Term.int (43 : Int32)),
 Jvm.Cond.eq (Jvm.Term.elem (Jvm.Term.field (Jvm.Term.string "EncoresLaw" (135 : Nat)) "java/lang/String" "value" "[B") (Jvm.Term.int (1 : Int32))) (Jvm.Term.int (98 : Int32)),
 Jvm.Cond.eq (Jvm.Term.elem (Jvm.Term.field (Jvm.Term.string "EncoresLaw" (135 : Nat)) "java/lang/String" "value" "[B") (Jvm.Term.int (2 : Int32))) (Jvm.Term.int (101 : Int32)),
 Jvm.Cond.eq (Jvm.Term.elem (Jvm.Term.field (Jvm.Term.string "EncoresLaw" (135 : Nat)) "java/lang/String" "value" "[B") (Jvm.Term.int (3 : Int32))) (Jvm.Term.int (115 : Int32)),
 Jvm.Cond.eq (Jvm.Term.elem (Jvm.Term.field (Jvm.Term.string "EncoresLaw" (135 : Nat)) "java/lang/String" "value" "[B") (Jvm.Term.int (4 : Int32))) (Jvm.Term.int (105 : Int32)),
 Jvm.Cond.eq (Jvm.Term.elem (Jvm.Term.field (Jvm.Term.string "EncoresLaw" (135 : Nat)) "java/lang/String" "value" "[B") (Jvm.Term.int (5 : Int32))) (Jvm.Term.int (100 : Int32)),
 Jvm.Cond.eq (Jvm.Term.elem (Jvm.Term.field (Jvm.Term.string "EncoresLaw" (135 : Nat)) "java/lang/String" "value" "[B") (Jvm.Term.int (6 : Int32))) (Jvm.Term.int (101 : Int32)),
 Jvm.Cond.eq (Jvm.Term.elem (Jvm.Term.field (Jvm.Term.string "EncoresLaw" (135 : Nat)) "java/lang/String" "value" "[B") (Jvm.Term.int (7 : Int32))) (Jvm.Term.int (42 : Int32)),
 Jvm.Cond.eq (Jvm.Term.elem (Jvm.Term.field (Jvm.Term.string "EncoresLaw" (135 : Nat)) "java/lang/String" "value" "[B") (Jvm.Term.int (8 : Int32))) (Jvm.Term.int (49 : Int32)),
 Jvm.Cond.eq (Jvm.Term.elem (Jvm.Term.field (Jvm.Term.string "EncoresLaw" (135 : Nat)) "java/lang/String" "value" "[B") (Jvm.Term.int (9 : Int32))) (Jvm.Term.int (53 : Int32)),
 Jvm.Cond.eq (Jvm.Term.elem (Jvm.Term.field (Jvm.Term.string "EncoresLaw" (135 : Nat)) "java/lang/String" "value" "[B") (Jvm.Term.int (10 : Int32))) (Jvm.Term.int (48 : Int32)),
 Jvm.Cond.eq (Jvm.Term.elem (Jvm.Term.field (Jvm.Term.string "EncoresLaw" (135 : Nat)) "java/lang/String" "value" "[B") (Jvm.Term.int (11 : Int32))) (Jvm.Term.int (45 : Int32)),
 Jvm.Cond.eq (Jvm.Term.elem (Jvm.Term.field (Jvm.Term.string "EncoresLaw" (135 : Nat)) "java/lang/String" "value" "[B") (Jvm.Term.int (12 : Int32))) (Jvm.Term.int (119 : Int32)),
 Jvm.Cond.eq (Jvm.Term.elem (Jvm.Term.field (Jvm.Term.string "EncoresLaw" (135 : Nat)) "java/lang/String" "value" "[B") (Jvm.Term.int (13 : Int32))) (Jvm.Term.int (101 : Int32)),
 Jvm.Cond.eq (Jvm.Term.elem (Jvm.Term.field (Jvm.Term.string "EncoresLaw" (135 : Nat)) "java/lang/String" "value" "[B") (Jvm.Term.int (14 : Int32))) (Jvm.Term.int (97 : Int32)),
 Jvm.Cond.eq (Jvm.Term.elem (Jvm.Term.field (Jvm.Term.string "EncoresLaw" (135 : Nat)) "java/lang/String" "value" "[B") (Jvm.Term.int (15 : Int32))) (Jvm.Term.int (114 : Int32)),
 Jvm.Cond.eq (Jvm.Term.elem (Jvm.Term.field (Jvm.Term.string "EncoresLaw" (135 : Nat)) "java/lang/String" "value" "[B") (Jvm.Term.int (16 : Int32))) (Jvm.Term.int (42 : Int32)),
 Jvm.Cond.eq (Jvm.Term.elem (Jvm.Term.field (Jvm.Term.string "EncoresLaw" (135 : Nat)) "java/lang/String" "value" "[B") (Jvm.Term.int (17 : Int32))) (Jvm.Term.int (53 : Int32)),
 Jvm.Cond.eq (Jvm.Term.elem (Jvm.Term.field (Jvm.Term.string "EncoresLaw" (135 : Nat)) "java/lang/String" "value" "[B") (Jvm.Term.int (18 : Int32))) (Jvm.Term.int (32 : Int32)),
 Jvm.Cond.eq (Jvm.Term.elem (Jvm.Term.field (Jvm.Term.string "EncoresLaw" (135 : Nat)) "java/lang/String" "value" "[B") (Jvm.Term.int (19 : Int32))) (Jvm.Term.int (119 : Int32)),
 Jvm.Cond.eq (Jvm.Term.elem (Jvm.Term.field (Jvm.Term.string "EncoresLaw" (135 : Nat)) "java/lang/String" "value" "[B") (Jvm.Term.int (20 : Int32))) (Jvm.Term.int (104 : Int32)),
 Jvm.Cond.eq (Jvm.Term.elem (Jvm.Term.field (Jvm.Term.string "EncoresLaw" (135 : Nat)) "java/lang/String" "value" "[B") (Jvm.Term.int (21 : Int32))) (Jvm.Term.int (101 : Int32)),
 Jvm.Cond.eq (Jvm.Term.elem (Jvm.Term.field (Jvm.Term.string "EncoresLaw" (135 : Nat)) "java/lang/String" "value" "[B") (Jvm.Term.int (22 : Int32))) (Jvm.Term.int (110 : Int32)),
 Jvm.Cond.eq (Jvm.Term.elem (Jvm.Term.field (Jvm.Term.string "EncoresLaw" (135 : Nat)) "java/lang/String" "value" "[B") (Jvm.Term.int (23 : Int32))) (Jvm.Term.int (32 : Int32)),
 Jvm.Cond.eq (Jvm.Term.elem (Jvm.Term.field (Jvm.Term.string "EncoresLaw" (135 : Nat)) "java/lang/String" "value" "[B") (Jvm.Term.int (24 : Int32))) (Jvm.Term.int (108 : Int32)),
 Jvm.Cond.eq (Jvm.Term.elem (Jvm.Term.field (Jvm.Term.string "EncoresLaw" (135 : Nat)) "java/lang/String" "value" "[B") (Jvm.Term.int (25 : Int32))) (Jvm.Term.int (105 : Int32)),
 Jvm.Cond.eq (Jvm.Term.elem (Jvm.Term.field (Jvm.Term.string "EncoresLaw" (135 : Nat)) "java/lang/String" "value" "[B") (Jvm.Term.int (26 : Int32))) (Jvm.Term.int (107 : Int32)),
 Jvm.Cond.eq (Jvm.Term.elem (Jvm.Term.field (Jvm.Term.string "EncoresLaw" (135 : Nat)) "java/lang/String" "value" "[B") (Jvm.Term.int (27 : Int32))) (Jvm.Term.int (101 : Int32)),
 Jvm.Cond.eq (Jvm.Term.elem (Jvm.Term.field (Jvm.Term.string "EncoresLaw" (135 : Nat)) "java/lang/String" "value" "[B") (Jvm.Term.int (28 : Int32))) (Jvm.Term.int (115 : Int32)),
 Jvm.Cond.eq (Jvm.Term.elem (Jvm.Term.field (Jvm.Term.string "EncoresLaw" (135 : Nat)) "java/lang/String" "value" "[B") (Jvm.Term.int (29 : Int32))) (Jvm.Term.int (62 : Int32)),
 Jvm.Cond.not (Jvm.Cond.eq (Jvm.Term.string "EncoresLaw" (68 : Nat)) (Jvm.Term.string "EncoresLaw" (135 : Nat))),
 Jvm.Cond.not (Jvm.Cond.eq (Jvm.Term.string "EncoresLaw" (77 : Nat)) (Jvm.Term.string "EncoresLaw" (135 : Nat))),
 Jvm.Cond.not (Jvm.Cond.eq (Jvm.Term.string "EncoresLaw" (79 : Nat)) (Jvm.Term.string "EncoresLaw" (135 : Nat))),
 Jvm.Cond.not (Jvm.Cond.eq (Jvm.Term.string "EncoresLaw" (85 : Nat)) (Jvm.Term.string "EncoresLaw" (135 : Nat))),
 Jvm.Cond.not (Jvm.Cond.eq (Jvm.Term.string "EncoresLaw" (87 : Nat)) (Jvm.Term.string "EncoresLaw" (135 : Nat))),
 Jvm.Cond.not (Jvm.Cond.eq (Jvm.Term.string "EncoresLaw" (89 : Nat)) (Jvm.Term.string "EncoresLaw" (135 : Nat))),
 Jvm.Cond.not (Jvm.Cond.eq (Jvm.Term.string "Encores$Tape" (80 : Nat)) (Jvm.Term.string "EncoresLaw" (135 : Nat))),
 Jvm.Cond.not (Jvm.Cond.eq (Jvm.Term.string "EncoresLaw" (109 : Nat)) (Jvm.Term.string "EncoresLaw" (135 : Nat))),
 Jvm.Cond.not (Jvm.Cond.eq (Jvm.Term.string "EncoresLaw" (111 : Nat)) (Jvm.Term.string "EncoresLaw" (135 : Nat))),
 Jvm.Cond.not (Jvm.Cond.eq (Jvm.Term.string "EncoresLaw" (119 : Nat)) (Jvm.Term.string "EncoresLaw" (135 : Nat))),
 Jvm.Cond.not (Jvm.Cond.eq (Jvm.Term.string "EncoresLaw" (121 : Nat)) (Jvm.Term.string "EncoresLaw" (135 : Nat))),
 Jvm.Cond.not (Jvm.Cond.eq (Jvm.Term.string "EncoresLaw" (131 : Nat)) (Jvm.Term.string "EncoresLaw" (135 : Nat))),
 Jvm.Cond.not (Jvm.Cond.eq (Jvm.Term.string "EncoresLaw" (133 : Nat)) (Jvm.Term.string "EncoresLaw" (135 : Nat))),
 Jvm.Cond.exactly (Jvm.Term.string "EncoresLaw" (137 : Nat)) "java/lang/String",
 Jvm.Cond.eq (Jvm.Term.field (Jvm.Term.string "EncoresLaw" (137 : Nat)) "java/lang/String" "coder" "B") (Jvm.Term.int (0 : Int32)),
 Jvm.Cond.arrayOf (Jvm.Term.field (Jvm.Term.string "EncoresLaw" (137 : Nat)) "java/lang/String" "value" "[B") Jvm.ClassFile.FieldType.byte,
 Jvm.Cond.eq (Jvm.Term.length (Jvm.Term.field (Jvm.Term.string "EncoresLaw" (137 : Nat)) "java/lang/String" "value" "[B")) (Jvm.Term.int (18 : Int32)),
 Jvm.Cond.eq (Jvm.Term.elem (Jvm.Term.field (Jvm.Term.string "EncoresLaw" (137 : Nat)) "java/lang/String" "value" "[B") (Jvm.Term.int (0 : Int32))) (Jvm.Term.int (32 : Int32)),
 Jvm.Cond.eq (Jvm.Term.elem (Jvm.Term.field (Jvm.Term.string "EncoresLaw" (137 : Nat)) "java/lang/String" "value" "[B") (Jvm.Term.int (1 : Int32))) (Jvm.Term.int (97 : Int32)),
 Jvm.Cond.eq (Jvm.Term.elem (Jvm.Term.field (Jvm.Term.string "EncoresLaw" (137 : Nat)) "java/lang/String" "value" "[B") (Jvm.Term.int (2 : Int32))) (Jvm.Term.int (110 : Int32)),
 Jvm.Cond.eq (Jvm.Term.elem (Jvm.Term.field (Jvm.Term.string "EncoresLaw" (137 : Nat)) "java/lang/String" "value" "[B") (Jvm.Term.int (3 : Int32))) (Jvm.Term.int (100 : Int32)),
 Jvm.Cond.eq (Jvm.Term.elem (Jvm.Term.field (Jvm.Term.string "EncoresLaw" (137 : Nat)) "java/lang/String" "value" "[B") (Jvm.Term.int (4 : Int32))) (Jvm.Term.int (32 : Int32)),
 Jvm.Cond.eq (Jvm.Term.elem (Jvm.Term.field (Jvm.Term.string "EncoresLaw" (137 : Nat)) "java/lang/String" "value" "[B") (Jvm.Term.int (5 : Int32))) (Jvm.Term.int (110 : Int32)),
 Jvm.Cond.eq (Jvm.Term.elem (Jvm.Term.field (Jvm.Term.string "EncoresLaw" (137 : Nat)) "java/lang/String" "value" "[B") (Jvm.Term.int (6 : Int32))) (Jvm.Term.int (111 : Int32)),
 Jvm.Cond.eq (Jvm.Term.elem (Jvm.Term.field (Jvm.Term.string "EncoresLaw" (137 : Nat)) "java/lang/String" "value" "[B") (Jvm.Term.int (7 : Int32))) (Jvm.Term.int (116 : Int32)),
 Jvm.Cond.eq (Jvm.Term.elem (Jvm.Term.field (Jvm.Term.string "EncoresLaw" (137 : Nat)) "java/lang/String" "value" "[B") (Jvm.Term.int (8 : Int32))) (Jvm.Term.int (32 : Int32)),
 Jvm.Cond.eq (Jvm.Term.elem (Jvm.Term.field (Jvm.Term.string "EncoresLaw" (137 : Nat)) "java/lang/String" "value" "[B") (Jvm.Term.int (9 : Int32))) (Jvm.Term.int (40 : Int32)),
 Jvm.Cond.eq (Jvm.Term.elem (Jvm.Term.field (Jvm.Term.string "EncoresLaw" (137 : Nat)) "java/lang/String" "value" "[B") (Jvm.Term.int (10 : Int32))) (Jvm.Term.int (109 : Int32)),
 Jvm.Cond.eq (Jvm.Term.elem (Jvm.Term.field (Jvm.Term.string "EncoresLaw" (137 : Nat)) "java/lang/String" "value" "[B") (Jvm.Term.int (11 : Int32))) (Jvm.Term.int (97 : Int32)),
 Jvm.Cond.eq (Jvm.Term.elem (Jvm.Term.field (Jvm.Term.string "EncoresLaw" (137 : Nat)) "java/lang/String" "value" "[B") (Jvm.Term.int (12 : Int32))) (Jvm.Term.int (110 : Int32)),
 Jvm.Cond.eq (Jvm.Term.elem (Jvm.Term.field (Jvm.Term.string "EncoresLaw" (137 : Nat)) "java/lang/String" "value" "[B") (Jvm.Term.int (13 : Int32))) (Jvm.Term.int (110 : Int32)),
 Jvm.Cond.eq (Jvm.Term.elem (Jvm.Term.field (Jvm.Term.string "EncoresLaw" (137 : Nat)) "java/lang/String" "value" "[B") (Jvm.Term.int (14 : Int32))) (Jvm.Term.int (101 : Int32)),
 Jvm.Cond.eq (Jvm.Term.elem (Jvm.Term.field (Jvm.Term.string "EncoresLaw" (137 : Nat)) "java/lang/String" "value" "[B") (Jvm.Term.int (15 : Int32))) (Jvm.Term.int (114 : Int32)),
 Jvm.Cond.eq (Jvm.Term.elem (Jvm.Term.field (Jvm.Term.string "EncoresLaw" (137 : Nat)) "java/lang/String" "value" "[B") (Jvm.Term.int (16 : Int32))) (Jvm.Term.int (115 : Int32)),
 Jvm.Cond.eq (Jvm.Term.elem (Jvm.Term.field (Jvm.Term.string "EncoresLaw" (137 : Nat)) "java/lang/String" "value" "[B") (Jvm.Term.int (17 : Int32))) (Jvm.Term.int (62 : Int32)),
 Jvm.Cond.not (Jvm.Cond.eq (Jvm.Term.string "EncoresLaw" (68 : Nat)) (Jvm.Term.string "EncoresLaw" (137 : Nat))),
 Jvm.Cond.not (Jvm.Cond.eq (Jvm.Term.string "EncoresLaw" (77 : Nat)) (Jvm.Term.string "EncoresLaw" (137 : Nat))),
 Jvm.Cond.not (Jvm.Cond.eq (Jvm.Term.string "EncoresLaw" (79 : Nat)) (Jvm.Term.string "EncoresLaw" (137 : Nat))),
 Jvm.Cond.not (Jvm.Cond.eq (Jvm.Term.string "EncoresLaw" (85 : Nat)) (Jvm.Term.string "EncoresLaw" (137 : Nat))),
 Jvm.Cond.not (Jvm.Cond.eq (Jvm.Term.string "EncoresLaw" (87 : Nat)) (Jvm.Term.string "EncoresLaw" (137 : Nat))),
 Jvm.Cond.not (Jvm.Cond.eq (Jvm.Term.string "EncoresLaw" (89 : Nat)) (Jvm.Term.string "EncoresLaw" (137 : Nat))),
 Jvm.Cond.not (Jvm.Cond.eq (Jvm.Term.string "Encores$Tape" (80 : Nat)) (Jvm.Term.string "EncoresLaw" (137 : Nat))),
 Jvm.Cond.not (Jvm.Cond.eq (Jvm.Term.string "EncoresLaw" (109 : Nat)) (Jvm.Term.string "EncoresLaw" (137 : Nat))),
 Jvm.Cond.not (Jvm.Cond.eq (Jvm.Term.string "EncoresLaw" (111 : Nat)) (Jvm.Term.string "EncoresLaw" (137 : Nat))),
 Jvm.Cond.not (Jvm.Cond.eq (Jvm.Term.string "EncoresLaw" (119 : Nat)) (Jvm.Term.string "EncoresLaw" (137 : Nat))),
 Jvm.Cond.not (Jvm.Cond.eq (Jvm.Term.string "EncoresLaw" (121 : Nat)) (Jvm.Term.string "EncoresLaw" (137 : Nat))),
 Jvm.Cond.not (Jvm.Cond.eq (Jvm.Term.string "EncoresLaw" (131 : Nat)) (Jvm.Term.string "EncoresLaw" (137 : Nat))),
 Jvm.Cond.not (Jvm.Cond.eq (Jvm.Term.string "EncoresLaw" (133 : Nat)) (Jvm.Term.string "EncoresLaw" (137 : Nat))),
 Jvm.Cond.not (Jvm.Cond.eq (Jvm.Term.string "EncoresLaw" (135 : Nat)) (Jvm.Term.string "EncoresLaw" (137 : Nat))),
 Jvm.Cond.exactly (Jvm.Term.string "EncoresLaw" (139 : Nat)) "java/lang/String",
 Jvm.Cond.eq (Jvm.Term.field (Jvm.Term.string "EncoresLaw" (139 : Nat)) "java/lang/String" "coder" "B") (Jvm.Term.int (0 : Int32)),
 Jvm.Cond.arrayOf (Jvm.Term.field (Jvm.Term.string "EncoresLaw" (139 : Nat)) "java/lang/String" "value" "[B") Jvm.ClassFile.FieldType.byte,
 Jvm.Cond.eq (Jvm.Term.length (Jvm.Term.field (Jvm.Term.string "EncoresLaw" (139 : Nat)) "java/lang/String" "value" "[B")) (Jvm.Term.int (19 : Int32)),
 Jvm.Cond.eq (Jvm.Term.elem (Jvm.Term.field (Jvm.Term.string "EncoresLaw" (139 : Nat)) "java/lang/String" "value" "[B") (Jvm.Term.int (0 : Int32))) (Jvm.Term.int (32 : Int32)),
 Jvm.Cond.eq (Jvm.Term.elem (Jvm.Term.field (Jvm.Term.string "EncoresLaw" (139 : Nat)) "java/lang/String" "value" "[B") (Jvm.Term.int (1 : Int32))) (Jvm.Term.int (111 : Int32)),
 Jvm.Cond.eq (Jvm.Term.elem (Jvm.Term.field (Jvm.Term.string "EncoresLaw" (139 : Nat)) "java/lang/String" "value" "[B") (Jvm.Term.int (2 : Int32))) (Jvm.Term.int (114 : Int32)),
 Jvm.Cond.eq (Jvm.Term.elem (Jvm.Term.field (Jvm.Term.string "EncoresLaw" (139 : Nat)) "java/lang/String" "value" "[B") (Jvm.Term.int (3 : Int32))) (Jvm.Term.int (32 : Int32)),
 Jvm.Cond.eq (Jvm.Term.elem (Jvm.Term.field (Jvm.Term.string "EncoresLaw" (139 : Nat)) "java/lang/String" "value" "[B") (Jvm.Term.int (4 : Int32))) (Jvm.Term.int (97 : Int32)),
 Jvm.Cond.eq (Jvm.Term.elem (Jvm.Term.field (Jvm.Term.string "EncoresLaw" (139 : Nat)) "java/lang/String" "value" "[B") (Jvm.Term.int (5 : Int32))) (Jvm.Term.int (103 : Int32)),
 Jvm.Cond.eq (Jvm.Term.elem (Jvm.Term.field (Jvm.Term.string "EncoresLaw" (139 : Nat)) "java/lang/String" "value" "[B") (Jvm.Term.int (6 : Int32))) (Jvm.Term.int (97 : Int32)),
 Jvm.Cond.eq (Jvm.Term.elem (Jvm.Term.field (Jvm.Term.string "EncoresLaw" (139 : Nat)) "java/lang/String" "value" "[B") (Jvm.Term.int (7 : Int32))) (Jvm.Term.int (105 : Int32)),
 Jvm.Cond.eq (Jvm.Term.elem (Jvm.Term.field (Jvm.Term.string "EncoresLaw" (139 : Nat)) "java/lang/String" "value" "[B") (Jvm.Term.int (8 : Int32))) (Jvm.Term.int (110 : Int32)),
 Jvm.Cond.eq (Jvm.Term.elem (Jvm.Term.field (Jvm.Term.string "EncoresLaw" (139 : Nat)) "java/lang/String" "value" "[B") (Jvm.Term.int (9 : Int32))) (Jvm.Term.int (115 : Int32)),
 Jvm.Cond.eq (Jvm.Term.elem (Jvm.Term.field (Jvm.Term.string "EncoresLaw" (139 : Nat)) "java/lang/String" "value" "[B") (Jvm.Term.int (10 : Int32))) (Jvm.Term.int (62 : Int32)),
 Jvm.Cond.eq (Jvm.Term.elem (Jvm.Term.field (Jvm.Term.string "EncoresLaw" (139 : Nat)) "java/lang/String" "value" "[B") (Jvm.Term.int (11 : Int32))) (Jvm.Term.int (51 : Int32)),
 Jvm.Cond.eq (Jvm.Term.elem (Jvm.Term.field (Jvm.Term.string "EncoresLaw" (139 : Nat)) "java/lang/String" "value" "[B") (Jvm.Term.int (12 : Int32))) (Jvm.Term.int (41 : Int32)),
 Jvm.Cond.eq (Jvm.Term.elem (Jvm.Term.field (Jvm.Term.string "EncoresLaw" (139 : Nat)) "java/lang/String" "value" "[B") (Jvm.Term.int (13 : Int32))) (Jvm.Term.int (59 : Int32)),
 Jvm.Cond.eq (Jvm.Term.elem (Jvm.Term.field (Jvm.Term.string "EncoresLaw" (139 : Nat)) "java/lang/String" "value" "[B") (Jvm.Term.int (14 : Int32))) (Jvm.Term.int (99 : Int32)),
 Jvm.Cond.eq (Jvm.Term.elem (Jvm.Term.field (Jvm.Term.string "EncoresLaw" (139 : Nat)) "java/lang/String" "value" "[B") (Jvm.Term.int (15 : Int32))) (Jvm.Term.int (108 : Int32)),
 Jvm.Cond.eq (Jvm.Term.elem (Jvm.Term.field (Jvm.Term.string "EncoresLaw" (139 : Nat)) "java/lang/String" "value" "[B") (Jvm.Term.int (16 : Int32))) (Jvm.Term.int (97 : Int32)),
 Jvm.Cond.eq (Jvm.Term.elem (Jvm.Term.field (Jvm.Term.string "EncoresLaw" (139 : Nat)) "java/lang/String" "value" "[B") (Jvm.Term.int (17 : Int32))) (Jvm.Term.int (112 : Int32)),
 Jvm.Cond.eq (Jvm.Term.elem (Jvm.Term.field (Jvm.Term.string "EncoresLaw" (139 : Nat)) "java/lang/String" "value" "[B") (Jvm.Term.int (18 : Int32))) (Jvm.Term.int (32 : Int32)),
 Jvm.Cond.not (Jvm.Cond.eq (Jvm.Term.string "EncoresLaw" (68 : Nat)) (Jvm.Term.string "EncoresLaw" (139 : Nat))),
 Jvm.Cond.not (Jvm.Cond.eq (Jvm.Term.string "EncoresLaw" (77 : Nat)) (Jvm.Term.string "EncoresLaw" (139 : Nat))),
 Jvm.Cond.not (Jvm.Cond.eq (Jvm.Term.string "EncoresLaw" (79 : Nat)) (Jvm.Term.string "EncoresLaw" (139 : Nat))),
 Jvm.Cond.not (Jvm.Cond.eq (Jvm.Term.string "EncoresLaw" (85 : Nat)) (Jvm.Term.string "EncoresLaw" (139 : Nat))),
 Jvm.Cond.not (Jvm.Cond.eq (Jvm.Term.string "EncoresLaw" (87 : Nat)) (Jvm.Term.string "EncoresLaw" (139 : Nat))),
 Jvm.Cond.not (Jvm.Cond.eq (Jvm.Term.string "EncoresLaw" (89 : Nat)) (Jvm.Term.string "EncoresLaw" (139 : Nat))),
 Jvm.Cond.not (Jvm.Cond.eq (Jvm.Term.string "Encores$Tape" (80 : Nat)) (Jvm.Term.string "EncoresLaw" (139 : Nat))),
 Jvm.Cond.not (Jvm.Cond.eq (Jvm.Term.string "EncoresLaw" (109 : Nat)) (Jvm.Term.string "EncoresLaw" (139 : Nat))),
 Jvm.Cond.not (Jvm.Cond.eq (Jvm.Term.string "EncoresLaw" (111 : Nat)) (Jvm.Term.string "EncoresLaw" (139 : Nat))),
 Jvm.Cond.not (Jvm.Cond.eq (Jvm.Term.string "EncoresLaw" (119 : Nat)) (Jvm.Term.string "EncoresLaw" (139 : Nat))),
 Jvm.Cond.not (Jvm.Cond.eq (Jvm.Term.string "EncoresLaw" (121 : Nat)) (Jvm.Term.string "EncoresLaw" (139 : Nat))),
 Jvm.Cond.not (Jvm.Cond.eq (Jvm.Term.string "EncoresLaw" (131 : Nat)) (Jvm.Term.string "EncoresLaw" (139 : Nat))),
 Jvm.Cond.not (Jvm.Cond.eq (Jvm.Term.string "EncoresLaw" (133 : Nat)) (Jvm.Term.string "EncoresLaw" (139 : Nat))),
 Jvm.Cond.not (Jvm.Cond.eq (Jvm.Term.string "EncoresLaw" (135 : Nat)) (Jvm.Term.string "EncoresLaw" (139 : Nat))),
 Jvm.Cond.not (Jvm.Cond.eq (Jvm.Term.string "EncoresLaw" (137 : Nat)) (Jvm.Term.string "EncoresLaw" (139 : Nat))),
 Jvm.Cond.exactly (Jvm.Term.string "EncoresLaw" (141 : Nat)) "java/lang/String",
 Jvm.Cond.eq (Jvm.Term.field (Jvm.Term.string "EncoresLaw" (141 : Nat)) "java/lang/String" "coder" "B") (Jvm.Term.int (0 : Int32)),
 Jvm.Cond.arrayOf (Jvm.Term.field (Jvm.Term.string "EncoresLaw" (141 : Nat)) "java/lang/String" "value" "[B") Jvm.ClassFile.FieldType.byte,
 Jvm.Cond.eq (Jvm.Term.length (Jvm.Term.field (Jvm.Term.string "EncoresLaw" (141 : Nat)) "java/lang/String" "value" "[B")) (Jvm.Term.int (95 : Int32)),
 Jvm.Cond.eq (Jvm.Term.elem (Jvm.Term.field (Jvm.Term.string "EncoresLaw" (141 : Nat)) "java/lang/String" "value" "[B") (Jvm.Term.int (0 : Int32))) (Jvm.Term.int (43 : Int32)),
 Jvm.Cond.eq (Jvm.Term.elem (Jvm.Term.field (Jvm.Term.string "EncoresLaw" (141 : Nat)) "java/lang/String" "value" "[B") (Jvm.Term.int (1 : Int32))) (Jvm.Term.int (112 : Int32)),
 Jvm.Cond.eq (Jvm.Term.elem (Jvm.Term.field (Jvm.Term.string "EncoresLaw" (141 : Nat)) "java/lang/String" "value" "[B") (Jvm.Term.int (2 : Int32))) (Jvm.Term.int (97 : Int32)),
 Jvm.Cond.eq (Jvm.Term.elem (Jvm.Term.field (Jvm.Term.string "EncoresLaw" (141 : Nat)) "java/lang/String" "value" "[B") (Jvm.Term.int (3 : Int32))) (Jvm.Term.int (105 : Int32)),
 Jvm.Cond.eq (Jvm.Term.elem (Jvm.Term.field (Jvm.Term.string "EncoresLaw" (141 : Nat)) "java/lang/String" "value" "[B") (Jvm.Term.int (4 : Int32))) (Jvm.Term.int (100 : Int32)),
 Jvm.Cond.eq (Jvm.Term.elem (Jvm.Term.field (Jvm.Term.string "EncoresLaw" (141 : Nat)) "java/lang/String" "value" "[B") (Jvm.Term.int (5 : Int32))) (Jvm.Term.int (42 : Int32)),
 Jvm.Cond.eq (Jvm.Term.elem (Jvm.Term.field (Jvm.Term.string "EncoresLaw" (141 : Nat)) "java/lang/String" "value" "[B") (Jvm.Term.int (6 : Int32))) (Jvm.Term.int (52 : Int32)),
 Jvm.Cond.eq (Jvm.Term.elem (Jvm.Term.field (Jvm.Term.string "EncoresLaw" (141 : Nat)) "java/lang/String" "value" "[B") (Jvm.Term.int (7 : Int32))) (Jvm.Term.int (45 : Int32)),
 Jvm.Cond.eq (Jvm.Term.elem (Jvm.Term.field (Jvm.Term.string "EncoresLaw" (141 : Nat)) "java/lang/String" "value" "[B") (Jvm.Term.int (8 : Int32))) (Jvm.Term.int (104 : Int32)),
 Jvm.Cond.eq (Jvm.Term.elem (Jvm.Term.field (Jvm.Term.string "EncoresLaw" (141 : Nat)) "java/lang/String" "value" "[B") (Jvm.Term.int (9 : Int32))) (Jvm.Term.int (101 : Int32)),
 Jvm.Cond.eq (Jvm.Term.elem (Jvm.Term.field (Jvm.Term.string "EncoresLaw" (141 : Nat)) "java/lang/String" "value" "[B") (Jvm.Term.int (10 : Int32))) (Jvm.Term.int (97 : Int32)),
 Jvm.Cond.eq (Jvm.Term.elem (Jvm.Term.field (Jvm.Term.string "EncoresLaw" (141 : Nat)) "java/lang/String" "value" "[B") (Jvm.Term.int (11 : Int32))) (Jvm.Term.int (114 : Int32)),
 Jvm.Cond.eq (Jvm.Term.elem (Jvm.Term.field (Jvm.Term.string "EncoresLaw" (141 : Nat)) "java/lang/String" "value" "[B") (Jvm.Term.int (12 : Int32))) (Jvm.Term.int (101 : Int32)),
 Jvm.Cond.eq (Jvm.Term.elem (Jvm.Term.field (Jvm.Term.string "EncoresLaw" (141 : Nat)) "java/lang/String" "value" "[B") (Jvm.Term.int (13 : Int32))) (Jvm.Term.int (114 : Int32)),
 Jvm.Cond.eq (Jvm.Term.elem (Jvm.Term.field (Jvm.Term.string "EncoresLaw" (141 : Nat)) "java/lang/String" "value" "[B") (Jvm.Term.int (14 : Int32))) (Jvm.Term.int (32 : Int32)),
 Jvm.Cond.eq (Jvm.Term.elem (Jvm.Term.field (Jvm.Term.string "EncoresLaw" (141 : Nat)) "java/lang/String" "value" "[B") (Jvm.Term.int (15 : Int32))) (Jvm.Term.int (119 : Int32)),
 Jvm.Cond.eq (Jvm.Term.elem (Jvm.Term.field (Jvm.Term.string "EncoresLaw" (141 : Nat)) "java/lang/String" "value" "[B") (Jvm.Term.int (16 : Int32))) (Jvm.Term.int (104 : Int32)),
 Jvm.Cond.eq (Jvm.Term.elem (Jvm.Term.field (Jvm.Term.string "EncoresLaw" (141 : Nat)) "java/lang/String" "value" "[B") (Jvm.Term.int (17 : Int32))) (Jvm.Term.int (101 : Int32)),
 Jvm.Cond.eq (Jvm.Term.elem (Jvm.Term.field (Jvm.Term.string "EncoresLaw" (141 : Nat)) "java/lang/String" "value" "[B") (Jvm.Term.int (18 : Int32))) (Jvm.Term.int (110 : Int32)),
 Jvm.Cond.eq (Jvm.Term.elem (Jvm.Term.field (Jvm.Term.string "EncoresLaw" (141 : Nat)) "java/lang/String" "value" "[B") (Jvm.Term.int (19 : Int32))) (Jvm.Term.int (32 : Int32)),
 Jvm.Cond.eq (Jvm.Term.elem (Jvm.Term.field (Jvm.Term.string "EncoresLaw" (141 : Nat)) "java/lang/String" "value" "[B") (Jvm.Term.int (20 : Int32))) (Jvm.Term.int (98 : Int32)),
 Jvm.Cond.eq (Jvm.Term.elem (Jvm.Term.field (Jvm.Term.string "EncoresLaw" (141 : Nat)) "java/lang/String" "value" "[B") (Jvm.Term.int (21 : Int32))) (Jvm.Term.int (101 : Int32)),
 Jvm.Cond.eq (Jvm.Term.elem (Jvm.Term.field (Jvm.Term.string "EncoresLaw" (141 : Nat)) "java/lang/String" "value" "[B") (Jvm.Term.int (22 : Int32))) (Jvm.Term.int (115 : Int32)),
 Jvm.Cond.eq (Jvm.Term.elem (Jvm.Term.field (Jvm.Term.string "EncoresLaw" (141 : Nat)) "java/lang/String" "value" "[B") (Jvm.Term.int (23 : Int32))) (Jvm.Term.int (105 : Int32)),
 Jvm.Cond.eq (Jvm.Term.elem (Jvm.Term.field (Jvm.Term.string "EncoresLaw" (141 : Nat)) "java/lang/String" "value" "[B") (Jvm.Term.int (24 : Int32))) (Jvm.Term.int (100 : Int32)),
 Jvm.Cond.eq (Jvm.Term.elem (Jvm.Term.field (Jvm.Term.string "EncoresLaw" (141 : Nat)) "java/lang/String" "value" "[B") (Jvm.Term.int (25 : Int32))) (Jvm.Term.int (101 : Int32)),
 Jvm.Cond.eq (Jvm.Term.elem (Jvm.Term.field (Jvm.Term.string "EncoresLaw" (141 : Nat)) "java/lang/String" "value" "[B") (Jvm.Term.int (26 : Int32))) (Jvm.Term.int (62 : Int32)),
 Jvm.Cond.eq (Jvm.Term.elem (Jvm.Term.field (Jvm.Term.string "EncoresLaw" (141 : Nat)) "java/lang/String" "value" "[B") (Jvm.Term.int (27 : Int32))) (Jvm.Term.int (49 : Int32)),
 Jvm.Cond.eq (Jvm.Term.elem (Jvm.Term.field (Jvm.Term.string "EncoresLaw" (141 : Nat)) "java/lang/String" "value" "[B") (Jvm.Term.int (28 : Int32))) (Jvm.Term.int (32 : Int32)),
 Jvm.Cond.eq (Jvm.Term.elem (Jvm.Term.field (Jvm.Term.string "EncoresLaw" (141 : Nat)) "java/lang/String" "value" "[B") (Jvm.Term.int (29 : Int32))) (Jvm.Term.int (111 : Int32)),
 Jvm.Cond.eq (Jvm.Term.elem (Jvm.Term.field (Jvm.Term.string "EncoresLaw" (141 : Nat)) "java/lang/String" "value" "[B") (Jvm.Term.int (30 : Int32))) (Jvm.Term.int (114 : Int32)),
 Jvm.Cond.eq (Jvm.Term.elem (Jvm.Term.field (Jvm.Term.string "EncoresLaw" (141 : Nat)) "java/lang/String" "value" "[B") (Jvm.Term.int (31 : Int32))) (Jvm.Term.int (32 : Int32)),
 Jvm.Cond.eq (Jvm.Term.elem (Jvm.Term.field (Jvm.Term.string "EncoresLaw" (141 : Nat)) "java/lang/String" "value" "[B") (Jvm.Term.int (32 : Int32))) (Jvm.Term.int (112 : Int32)),
 Jvm.Cond.eq (Jvm.Term.elem (Jvm.Term.field (Jvm.Term.string "EncoresLaw" (141 : Nat)) "java/lang/String" "value" "[B") (Jvm.Term.int (33 : Int32))) (Jvm.Term.int (97 : Int32)),
 Jvm.Cond.eq (Jvm.Term.elem (Jvm.Term.field (Jvm.Term.string "EncoresLaw" (141 : Nat)) "java/lang/String" "value" "[B") (Jvm.Term.int (34 : Int32))) (Jvm.Term.int (105 : Int32)),
 Jvm.Cond.eq (Jvm.Term.elem (Jvm.Term.field (Jvm.Term.string "EncoresLaw" (141 : Nat)) "java/lang/String" "value" "[B") (Jvm.Term.int (35 : Int32))) (Jvm.Term.int (100 : Int32)),
 Jvm.Cond.eq (Jvm.Term.elem (Jvm.Term.field (Jvm.Term.string "EncoresLaw" (141 : Nat)) "java/lang/String" "value" "[B") (Jvm.Term.int (36 : Int32))) (Jvm.Term.int (62 : Int32)),
 Jvm.Cond.eq (Jvm.Term.elem (Jvm.Term.field (Jvm.Term.string "EncoresLaw" (141 : Nat)) "java/lang/String" "value" "[B") (Jvm.Term.int (37 : Int32))) (Jvm.Term.int (50 : Int32)),
 Jvm.Cond.eq (Jvm.Term.elem (Jvm.Term.field (Jvm.Term.string "EncoresLaw" (141 : Nat)) "java/lang/String" "value" "[B") (Jvm.Term.int (38 : Int32))) (Jvm.Term.int (48 : Int32)),
 Jvm.Cond.eq (Jvm.Term.elem (Jvm.Term.field (Jvm.Term.string "EncoresLaw" (141 : Nat)) "java/lang/String" "value" "[B") (Jvm.Term.int (39 : Int32))) (Jvm.Term.int (59 : Int32)),
 Jvm.Cond.eq (Jvm.Term.elem (Jvm.Term.field (Jvm.Term.string "EncoresLaw" (141 : Nat)) "java/lang/String" "value" "[B") (Jvm.Term.int (40 : Int32))) (Jvm.Term.int (99 : Int32)),
 Jvm.Cond.eq (Jvm.Term.elem (Jvm.Term.field (Jvm.Term.string "EncoresLaw" (141 : Nat)) "java/lang/String" "value" "[B") (Jvm.Term.int (41 : Int32))) (Jvm.Term.int (108 : Int32)),
 Jvm.Cond.eq (Jvm.Term.elem (Jvm.Term.field (Jvm.Term.string "EncoresLaw" (141 : Nat)) "java/lang/String" "value" "[B") (Jvm.Term.int (42 : Int32))) (Jvm.Term.int (97 : Int32)),
 Jvm.Cond.eq (Jvm.Term.elem (Jvm.Term.field (Jvm.Term.string "EncoresLaw" (141 : Nat)) "java/lang/String" "value" "[B") (Jvm.Term.int (43 : Int32))) (Jvm.Term.int (112 : Int32)),
 Jvm.Cond.eq (Jvm.Term.elem (Jvm.Term.field (Jvm.Term.string "EncoresLaw" (141 : Nat)) "java/lang/String" "value" "[B") (Jvm.Term.int (44 : Int32))) (Jvm.Term.int (32 : Int32)),
 Jvm.Cond.eq (Jvm.Term.elem (Jvm.Term.field (Jvm.Term.string "EncoresLaw" (141 : Nat)) "java/lang/String" "value" "[B") (Jvm.Term.int (45 : Int32))) (Jvm.Term.int (108 : Int32)),
 Jvm.Cond.eq (Jvm.Term.elem (Jvm.Term.field (Jvm.Term.string "EncoresLaw" (141 : Nat)) "java/lang/String" "value" "[B") (Jvm.Term.int (46 : Int32))) (Jvm.Term.int (105 : Int32)),
 Jvm.Cond.eq (Jvm.Term.elem (Jvm.Term.field (Jvm.Term.string "EncoresLaw" (141 : Nat)) "java/lang/String" "value" "[B") (Jvm.Term.int (47 : Int32))) (Jvm.Term.int (107 : Int32)),
 Jvm.Cond.eq (Jvm.Term.elem (Jvm.Term.field (Jvm.Term.string "EncoresLaw" (141 : Nat)) "java/lang/String" "value" "[B") (Jvm.Term.int (48 : Int32))) (Jvm.Term.int (101 : Int32)),
 Jvm.Cond.eq (Jvm.Term.elem (Jvm.Term.field (Jvm.Term.string "EncoresLaw" (141 : Nat)) "java/lang/String" "value" "[B") (Jvm.Term.int (49 : Int32))) (Jvm.Term.int (115 : Int32)),
 Jvm.Cond.eq (Jvm.Term.elem (Jvm.Term.field (Jvm.Term.string "EncoresLaw" (141 : Nat)) "java/lang/String" "value" "[B") (Jvm.Term.int (50 : Int32))) (Jvm.Term.int (42 : Int32)),
 Jvm.Cond.eq (Jvm.Term.elem (Jvm.Term.field (Jvm.Term.string "EncoresLaw" (141 : Nat)) "java/lang/String" "value" "[B") (Jvm.Term.int (51 : Int32))) (Jvm.Term.int (54 : Int32)),
 Jvm.Cond.eq (Jvm.Term.elem (Jvm.Term.field (Jvm.Term.string "EncoresLaw" (141 : Nat)) "java/lang/String" "value" "[B") (Jvm.Term.int (52 : Int32))) (Jvm.Term.int (48 : Int32)),
 Jvm.Cond.eq (Jvm.Term.elem (Jvm.Term.field (Jvm.Term.string "EncoresLaw" (141 : Nat)) "java/lang/String" "value" "[B") (Jvm.Term.int (53 : Int32))) (Jvm.Term.int (45 : Int32)),
 Jvm.Cond.eq (Jvm.Term.elem (Jvm.Term.field (Jvm.Term.string "EncoresLaw" (141 : Nat)) "java/lang/String" "value" "[B") (Jvm.Term.int (54 : Int32))) (Jvm.Term.int (108 : Int32)),
 Jvm.Cond.eq (Jvm.Term.elem (Jvm.Term.field (Jvm.Term.string "EncoresLaw" (141 : Nat)) "java/lang/String" "value" "[B") (Jvm.Term.int (55 : Int32))) (Jvm.Term.int (97 : Int32)),
 Jvm.Cond.eq (Jvm.Term.elem (Jvm.Term.field (Jvm.Term.string "EncoresLaw" (141 : Nat)) "java/lang/String" "value" "[B") (Jvm.Term.int (56 : Int32))) (Jvm.Term.int (116 : Int32)),
 Jvm.Cond.eq (Jvm.Term.elem (Jvm.Term.field (Jvm.Term.string "EncoresLaw" (141 : Nat)) "java/lang/String" "value" "[B") (Jvm.Term.int (57 : Int32))) (Jvm.Term.int (101 : Int32)),
 Jvm.Cond.eq (Jvm.Term.elem (Jvm.Term.field (Jvm.Term.string "EncoresLaw" (141 : Nat)) "java/lang/String" "value" "[B") (Jvm.Term.int (58 : Int32))) (Jvm.Term.int (42 : Int32)),
 Jvm.Cond.eq (Jvm.Term.elem (Jvm.Term.field (Jvm.Term.string "EncoresLaw" (141 : Nat)) "java/lang/String" "value" "[B") (Jvm.Term.int (59 : Int32))) (Jvm.Term.int (50 : Int32)),
 Jvm.Cond.eq (Jvm.Term.elem (Jvm.Term.field (Jvm.Term.string "EncoresLaw" (141 : Nat)) "java/lang/String" "value" "[B") (Jvm.Term.int (60 : Int32))) (Jvm.Term.int (48 : Int32)),
 Jvm.Cond.eq (Jvm.Term.elem (Jvm.Term.field (Jvm.Term.string "EncoresLaw" (141 : Nat)) "java/lang/String" "value" "[B") (Jvm.Term.int (61 : Int32))) (Jvm.Term.int (43 : Int32)),
 Jvm.Cond.eq (Jvm.Term.elem (Jvm.Term.field (Jvm.Term.string "EncoresLaw" (141 : Nat)) "java/lang/String" "value" "[B") (Jvm.Term.int (62 : Int32))) (Jvm.Term.int (104 : Int32)),
 Jvm.Cond.eq (Jvm.Term.elem (Jvm.Term.field (Jvm.Term.string "EncoresLaw" (141 : Nat)) "java/lang/String" "value" "[B") (Jvm.Term.int (63 : Int32))) (Jvm.Term.int (97 : Int32)),
 Jvm.Cond.eq (Jvm.Term.elem (Jvm.Term.field (Jvm.Term.string "EncoresLaw" (141 : Nat)) "java/lang/String" "value" "[B") (Jvm.Term.int (64 : Int32))) (Jvm.Term.int (110 : Int32)),
 Jvm.Cond.eq (Jvm.Term.elem (Jvm.Term.field (Jvm.Term.string "EncoresLaw" (141 : Nat)) "java/lang/String" "value" "[B") (Jvm.Term.int (65 : Int32))) (Jvm.Term.int (100 : Int32)),
 Jvm.Cond.eq (Jvm.Term.elem (Jvm.Term.field (Jvm.Term.string "EncoresLaw" (141 : Nat)) "java/lang/String" "value" "[B") (Jvm.Term.int (66 : Int32))) (Jvm.Term.int (115 : Int32)),
 Jvm.Cond.eq (Jvm.Term.elem (Jvm.Term.field (Jvm.Term.string "EncoresLaw" (141 : Nat)) "java/lang/String" "value" "[B") (Jvm.Term.int (67 : Int32))) (Jvm.Term.int (59 : Int32)),
 Jvm.Cond.eq (Jvm.Term.elem (Jvm.Term.field (Jvm.Term.string "EncoresLaw" (141 : Nat)) "java/lang/String" "value" "[B") (Jvm.Term.int (68 : Int32))) (Jvm.Term.int (119 : Int32)),
 Jvm.Cond.eq (Jvm.Term.elem (Jvm.Term.field (Jvm.Term.string "EncoresLaw" (141 : Nat)) "java/lang/String" "value" "[B") (Jvm.Term.int (69 : Int32))) (Jvm.Term.int (101 : Int32)),
 Jvm.Cond.eq (Jvm.Term.elem (Jvm.Term.field (Jvm.Term.string "EncoresLaw" (141 : Nat)) "java/lang/String" "value" "[B") (Jvm.Term.int (70 : Int32))) (Jvm.Term.int (97 : Int32)),
 Jvm.Cond.eq (Jvm.Term.elem (Jvm.Term.field (Jvm.Term.string "EncoresLaw" (141 : Nat)) "java/lang/String" "value" "[B") (Jvm.Term.int (71 : Int32))) (Jvm.Term.int (114 : Int32)),
 Jvm.Cond.eq (Jvm.Term.elem (Jvm.Term.field (Jvm.Term.string "EncoresLaw" (141 : Nat)) "java/lang/String" "value" "[B") (Jvm.Term.int (72 : Int32))) (Jvm.Term.int (115 : Int32)),
 Jvm.Cond.eq (Jvm.Term.elem (Jvm.Term.field (Jvm.Term.string "EncoresLaw" (141 : Nat)) "java/lang/String" "value" "[B") (Jvm.Term.int (73 : Int32))) (Jvm.Term.int (32 : Int32)),
 Jvm.Cond.eq (Jvm.Term.elem (Jvm.Term.field (Jvm.Term.string "EncoresLaw" (141 : Nat)) "java/lang/String" "value" "[B") (Jvm.Term.int (74 : Int32))) (Jvm.Term.int (119 : Int32)),
 Jvm.Cond.eq (Jvm.Term.elem (Jvm.Term.field (Jvm.Term.string "EncoresLaw" (141 : Nat)) "java/lang/String" "value" "[B") (Jvm.Term.int (75 : Int32))) (Jvm.Term.int (101 : Int32)),
 Jvm.Cond.eq (Jvm.Term.elem (Jvm.Term.field (Jvm.Term.string "EncoresLaw" (141 : Nat)) "java/lang/String" "value" "[B") (Jvm.Term.int (76 : Int32))) (Jvm.Term.int (97 : Int32)),
 Jvm.Cond.eq (Jvm.Term.elem (Jvm.Term.field (Jvm.Term.string "EncoresLaw" (141 : Nat)) "java/lang/String" "value" "[B") (Jvm.Term.int (77 : Int32))) (Jvm.Term.int (114 : Int32)),
 Jvm.Cond.eq (Jvm.Term.elem (Jvm.Term.field (Jvm.Term.string "EncoresLaw" (141 : Nat)) "java/lang/String" "value" "[B") (Jvm.Term.int (78 : Int32))) (Jvm.Term.int (47 : Int32)),
 Jvm.Cond.eq (Jvm.Term.elem (Jvm.Term.field (Jvm.Term.string "EncoresLaw" (141 : Nat)) "java/lang/String" "value" "[B") (Jvm.Term.int (79 : Int32))) (Jvm.Term.int (52 : Int32)),
 Jvm.Cond.eq (Jvm.Term.elem (Jvm.Term.field (Jvm.Term.string "EncoresLaw" (141 : Nat)) "java/lang/String" "value" "[B") (Jvm.Term.int (80 : Int32))) (Jvm.Term.int (43 : Int32)),
 Jvm.Cond.eq (Jvm.Term.elem (Jvm.Term.field (Jvm.Term.string "EncoresLaw" (141 : Nat)) "java/lang/String" "value" "[B") (Jvm.Term.int (81 : Int32))) (Jvm.Term.int (49 : Int32)),
 Jvm.Cond.eq (Jvm.Term.elem (Jvm.Term.field (Jvm.Term.string "EncoresLaw" (141 : Nat)) "java/lang/String" "value" "[B") (Jvm.Term.int (82 : Int32))) (Jvm.Term.int (32 : Int32)),
 Jvm.Cond.eq (Jvm.Term.elem (Jvm.Term.field (Jvm.Term.string "EncoresLaw" (141 : Nat)) "java/lang/String" "value" "[B") (Jvm.Term.int (83 : Int32))) (Jvm.Term.int (119 : Int32)),
 Jvm.Cond.eq (Jvm.Term.elem (Jvm.Term.field (Jvm.Term.string "EncoresLaw" (141 : Nat)) "java/lang/String" "value" "[B") (Jvm.Term.int (84 : Int32))) (Jvm.Term.int (104 : Int32)),
 Jvm.Cond.eq (Jvm.Term.elem (Jvm.Term.field (Jvm.Term.string "EncoresLaw" (141 : Nat)) "java/lang/String" "value" "[B") (Jvm.Term.int (85 : Int32))) (Jvm.Term.int (101 : Int32)),
 Jvm.Cond.eq (Jvm.Term.elem (Jvm.Term.field (Jvm.Term.string "EncoresLaw" (141 : Nat)) "java/lang/String" "value" "[B") (Jvm.Term.int (86 : Int32))) (Jvm.Term.int (110 : Int32)),
 Jvm.Cond.eq (Jvm.Term.elem (Jvm.Term.field (Jvm.Term.string "EncoresLaw" (141 : Nat)) "java/lang/String" "value" "[B") (Jvm.Term.int (87 : Int32))) (Jvm.Term.int (32 : Int32)),
 Jvm.Cond.eq (Jvm.Term.elem (Jvm.Term.field (Jvm.Term.string "EncoresLaw" (141 : Nat)) "java/lang/String" "value" "[B") (Jvm.Term.int (88 : Int32))) (Jvm.Term.int (97 : Int32)),
 Jvm.Cond.eq (Jvm.Term.elem (Jvm.Term.field (Jvm.Term.string "EncoresLaw" (141 : Nat)) "java/lang/String" "value" "[B") (Jvm.Term.int (89 : Int32))) (Jvm.Term.int (103 : Int32)),
 Jvm.Cond.eq (Jvm.Term.elem (Jvm.Term.field (Jvm.Term.string "EncoresLaw" (141 : Nat)) "java/lang/String" "value" "[B") (Jvm.Term.int (90 : Int32))) (Jvm.Term.int (97 : Int32)),
 Jvm.Cond.eq (Jvm.Term.elem (Jvm.Term.field (Jvm.Term.string "EncoresLaw" (141 : Nat)) "java/lang/String" "value" "[B") (Jvm.Term.int (91 : Int32))) (Jvm.Term.int (105 : Int32)),
 Jvm.Cond.eq (Jvm.Term.elem (Jvm.Term.field (Jvm.Term.string "EncoresLaw" (141 : Nat)) "java/lang/String" "value" "[B") (Jvm.Term.int (92 : Int32))) (Jvm.Term.int (110 : Int32)),
 Jvm.Cond.eq (Jvm.Term.elem (Jvm.Term.field (Jvm.Term.string "EncoresLaw" (141 : Nat)) "java/lang/String" "value" "[B") (Jvm.Term.int (93 : Int32))) (Jvm.Term.int (115 : Int32)),
 Jvm.Cond.eq (Jvm.Term.elem (Jvm.Term.field (Jvm.Term.string "EncoresLaw" (141 : Nat)) "java/lang/String" "value" "[B") (Jvm.Term.int (94 : Int32))) (Jvm.Term.int (62 : Int32)),
 Jvm.Cond.not (Jvm.Cond.eq (Jvm.Term.string "EncoresLaw" (68 : Nat)) (Jvm.Term.string "EncoresLaw" (141 : Nat))),
 Jvm.Cond.not (Jvm.Cond.eq (Jvm.Term.string "EncoresLaw" (77 : Nat)) (Jvm.Term.string "EncoresLaw" (141 : Nat))),
 Jvm.Cond.not (Jvm.Cond.eq (Jvm.Term.string "EncoresLaw" (79 : Nat)) (Jvm.Term.string "EncoresLaw" (141 : Nat))),
 Jvm.Cond.not (Jvm.Cond.eq (Jvm.Term.string "EncoresLaw" (85 : Nat)) (Jvm.Term.string "EncoresLaw" (141 : Nat))),
 Jvm.Cond.not (Jvm.Cond.eq (Jvm.Term.string "EncoresLaw" (87 : Nat)) (Jvm.Term.string "EncoresLaw" (141 : Nat))),
 Jvm.Cond.not (Jvm.Cond.eq (Jvm.Term.string "EncoresLaw" (89 : Nat)) (Jvm.Term.string "EncoresLaw" (141 : Nat))),
 Jvm.Cond.not (Jvm.Cond.eq (Jvm.Term.string "Encores$Tape" (80 : Nat)) (Jvm.Term.string "EncoresLaw" (141 : Nat))),
 Jvm.Cond.not (Jvm.Cond.eq (Jvm.Term.string "EncoresLaw" (109 : Nat)) (Jvm.Term.string "EncoresLaw" (141 : Nat))),
 Jvm.Cond.not (Jvm.Cond.eq (Jvm.Term.string "EncoresLaw" (111 : Nat)) (Jvm.Term.string "EncoresLaw" (141 : Nat))),
 Jvm.Cond.not (Jvm.Cond.eq (Jvm.Term.string "EncoresLaw" (119 : Nat)) (Jvm.Term.string "EncoresLaw" (141 : Nat))),
 Jvm.Cond.not (Jvm.Cond.eq (Jvm.Term.string "EncoresLaw" (121 : Nat)) (Jvm.Term.string "EncoresLaw" (141 : Nat))),
 Jvm.Cond.not (Jvm.Cond.eq (Jvm.Term.string "EncoresLaw" (131 : Nat)) (Jvm.Term.string "EncoresLaw" (141 : Nat))),
 Jvm.Cond.not (Jvm.Cond.eq (Jvm.Term.string "EncoresLaw" (133 : Nat)) (Jvm.Term.string "EncoresLaw" (141 : Nat))),
 Jvm.Cond.not (Jvm.Cond.eq (Jvm.Term.string "EncoresLaw" (135 : Nat)) (Jvm.Term.string "EncoresLaw" (141 : Nat))),
 Jvm.Cond.not (Jvm.Cond.eq (Jvm.Term.string "EncoresLaw" (137 : Nat)) (Jvm.Term.string "EncoresLaw" (141 : Nat))),
 Jvm.Cond.not (Jvm.Cond.eq (Jvm.Term.string "EncoresLaw" (139 : Nat)) (Jvm.Term.string "EncoresLaw" (141 : Nat))),
 Jvm.Cond.exactly (Jvm.Term.string "EncoresLaw" (143 : Nat)) "java/lang/String",
 Jvm.Cond.eq (Jvm.Term.field (Jvm.Term.string "EncoresLaw" (143 : Nat)) "java/lang/String" "coder" "B") (Jvm.Term.int (0 : Int32)),
 Jvm.Cond.arrayOf (Jvm.Term.field (Jvm.Term.string "EncoresLaw" (143 : Nat)) "java/lang/String" "value" "[B") Jvm.ClassFile.FieldType.byte,
 Jvm.Cond.eq (Jvm.Term.length (Jvm.Term.field (Jvm.Term.string "EncoresLaw" (143 : Nat)) "java/lang/String" "value" "[B")) (Jvm.Term.int (7 : Int32)),
 Jvm.Cond.eq (Jvm.Term.elem (Jvm.Term.field (Jvm.Term.string "EncoresLaw" (143 : Nat)) "java/lang/String" "value" "[B") (Jvm.Term.int (0 : Int32))) (Jvm.Term.int (59 : Int32)),
 Jvm.Cond.eq (Jvm.Term.elem (Jvm.Term.field (Jvm.Term.string "EncoresLaw" (143 : Nat)) "java/lang/String" "value" "[B") (Jvm.Term.int (1 : Int32))) (Jvm.Term.int (119 : Int32)),
 Jvm.Cond.eq (Jvm.Term.elem (Jvm.Term.field (Jvm.Term.string "EncoresLaw" (143 : Nat)) "java/lang/String" "value" "[B") (Jvm.Term.int (2 : Int32))) (Jvm.Term.int (101 : Int32)),
 Jvm.Cond.eq (Jvm.Term.elem (Jvm.Term.field (Jvm.Term.string "EncoresLaw" (143 : Nat)) "java/lang/String" "value" "[B") (Jvm.Term.int (3 : Int32))) (Jvm.Term.int (97 : Int32)),
 Jvm.Cond.eq (Jvm.Term.elem (Jvm.Term.field (Jvm.Term.string "EncoresLaw" (143 : Nat)) "java/lang/String" "value" "[B") (Jvm.Term.int (4 : Int32))) (Jvm.Term.int (114 : Int32)),
 Jvm.Cond.eq (Jvm.Term.elem (Jvm.Term.field (Jvm.Term.string "EncoresLaw" (143 : Nat)) "java/lang/String" "value" "[B") (Jvm.Term.int (5 : Int32))) (Jvm.Term.int (115 : Int32)),
 Jvm.Cond.eq (Jvm.Term.elem (Jvm.Term.field (Jvm.Term.string "EncoresLaw" (143 : Nat)) "java/lang/String" "value" "[B") (Jvm.Term.int (6 : Int32))) (Jvm.Term.int (32 : Int32)),
 Jvm.Cond.not (Jvm.Cond.eq (Jvm.Term.string "EncoresLaw" (68 : Nat)) (Jvm.Term.string "EncoresLaw" (143 : Nat))),
 Jvm.Cond.not (Jvm.Cond.eq (Jvm.Term.string "EncoresLaw" (77 : Nat)) (Jvm.Term.string "EncoresLaw" (143 : Nat))),
 Jvm.Cond.not (Jvm.Cond.eq (Jvm.Term.string "EncoresLaw" (79 : Nat)) (Jvm.Term.string "EncoresLaw" (143 : Nat))),
 Jvm.Cond.not (Jvm.Cond.eq (Jvm.Term.string "EncoresLaw" (85 : Nat)) (Jvm.Term.string "EncoresLaw" (143 : Nat))),
 Jvm.Cond.not (Jvm.Cond.eq (Jvm.Term.string "EncoresLaw" (87 : Nat)) (Jvm.Term.string "EncoresLaw" (143 : Nat))),
 Jvm.Cond.not (Jvm.Cond.eq (Jvm.Term.string "EncoresLaw" (89 : Nat)) (Jvm.Term.string "EncoresLaw" (143 : Nat))),
 Jvm.Cond.not (Jvm.Cond.eq (Jvm.Term.string "Encores$Tape" (80 : Nat)) (Jvm.Term.string "EncoresLaw" (143 : Nat))),
 Jvm.Cond.not (Jvm.Cond.eq (Jvm.Term.string "EncoresLaw" (109 : Nat)) (Jvm.Term.string "EncoresLaw" (143 : Nat))),
 Jvm.Cond.not (Jvm.Cond.eq (Jvm.Term.string "EncoresLaw" (111 : Nat)) (Jvm.Term.string "EncoresLaw" (143 : Nat))),
 Jvm.Cond.not (Jvm.Cond.eq (Jvm.Term.string "EncoresLaw" (119 : Nat)) (Jvm.Term.string "EncoresLaw" (143 : Nat))),
 Jvm.Cond.not (Jvm.Cond.eq (Jvm.Term.string "EncoresLaw" (121 : Nat)) (Jvm.Term.string "EncoresLaw" (143 : Nat))),
 Jvm.Cond.not (Jvm.Cond.eq (Jvm.Term.string "EncoresLaw" (131 : Nat)) (Jvm.Term.string "EncoresLaw" (143 : Nat))),
 Jvm.Cond.not (Jvm.Cond.eq (Jvm.Term.string "EncoresLaw" (133 : Nat)) (Jvm.Term.string "EncoresLaw" (143 : Nat))),
 Jvm.Cond.not (Jvm.Cond.eq (Jvm.Term.string "EncoresLaw" (135 : Nat)) (Jvm.Term.string "EncoresLaw" (143 : Nat))),
 Jvm.Cond.not (Jvm.Cond.eq (Jvm.Term.string "EncoresLaw" (137 : Nat)) (Jvm.Term.string "EncoresLaw" (143 : Nat))),
 Jvm.Cond.not (Jvm.Cond.eq (Jvm.Term.string "EncoresLaw" (139 : Nat)) (Jvm.Term.string "EncoresLaw" (143 : Nat))),
 Jvm.Cond.not (Jvm.Cond.eq (Jvm.Term.string "EncoresLaw" (141 : Nat)) (Jvm.Term.string "EncoresLaw" (143 : Nat))),
 Jvm.Cond.exactly (Jvm.Term.string "EncoresLaw" (145 : Nat)) "java/lang/String",
 Jvm.Cond.eq (Jvm.Term.field (Jvm.Term.string "EncoresLaw" (145 : Nat)) "java/lang/String" "coder" "B") (Jvm.Term.int (0 : Int32)),
 Jvm.Cond.arrayOf (Jvm.Term.field (Jvm.Term.string "EncoresLaw" (145 : Nat)) "java/lang/String" "value" "[B") Jvm.ClassFile.FieldType.byte,
 Jvm.Cond.eq (Jvm.Term.length (Jvm.Term.field (Jvm.Term.string "EncoresLaw" (145 : Nat)) "java/lang/String" "value" "[B")) (Jvm.Term.int (7 : Int32)),
 Jvm.Cond.eq (Jvm.Term.elem (Jvm.Term.field (Jvm.Term.string "EncoresLaw" (145 : Nat)) "java/lang/String" "value" "[B") (Jvm.Term.int (0 : Int32))) (Jvm.Term.int (43 : Int32)),
 Jvm.Cond.eq (Jvm.Term.elem (Jvm.Term.field (Jvm.Term.string "EncoresLaw" (145 : Nat)) "java/lang/String" "value" "[B") (Jvm.Term.int (1 : Int32))) (Jvm.Term.int (119 : Int32)),
 Jvm.Cond.eq (Jvm.Term.elem (Jvm.Term.field (Jvm.Term.string "EncoresLaw" (145 : Nat)) "java/lang/String" "value" "[B") (Jvm.Term.int (2 : Int32))) (Jvm.Term.int (111 : Int32)),
 Jvm.Cond.eq (Jvm.Term.elem (Jvm.Term.field (Jvm.Term.string "EncoresLaw" (145 : Nat)) "java/lang/String" "value" "[B") (Jvm.Term.int (3 : Int32))) (Jvm.Term.int (114 : Int32)),
 Jvm.Cond.eq (Jvm.Term.elem (Jvm.Term.field (Jvm.Term.string "EncoresLaw" (145 : Nat)) "java/lang/String" "value" "[B") (Jvm.Term.int (4 : Int32))) (Jvm.Term.int (116 : Int32)),
 Jvm.Cond.eq (Jvm.Term.elem (Jvm.Term.field (Jvm.Term.string "EncoresLaw" (145 : Nat)) "java/lang/String" "value" "[B") (Jvm.Term.int (5 : Int32))) (Jvm.Term.int (104 : Int32)),
 Jvm.Cond.eq (Jvm.Term.elem (Jvm.Term.field (Jvm.Term.string "EncoresLaw" (145 : Nat)) "java/lang/String" "value" "[B") (Jvm.Term.int (6 : Int32))) (Jvm.Term.int (59 : Int32)),
 Jvm.Cond.not (Jvm.Cond.eq (Jvm.Term.string "EncoresLaw" (68 : Nat)) (Jvm.Term.string "EncoresLaw" (145 : Nat))),
 Jvm.Cond.not (Jvm.Cond.eq (Jvm.Term.string "EncoresLaw" (77 : Nat)) (Jvm.Term.string "EncoresLaw" (145 : Nat))),
 Jvm.Cond.not (Jvm.Cond.eq (Jvm.Term.string "EncoresLaw" (79 : Nat)) (Jvm.Term.string "EncoresLaw" (145 : Nat))),
 Jvm.Cond.not (Jvm.Cond.eq (Jvm.Term.string "EncoresLaw" (85 : Nat)) (Jvm.Term.string "EncoresLaw" (145 : Nat))),
 Jvm.Cond.not (Jvm.Cond.eq (Jvm.Term.string "EncoresLaw" (87 : Nat)) (Jvm.Term.string "EncoresLaw" (145 : Nat))),
 Jvm.Cond.not (Jvm.Cond.eq (Jvm.Term.string "EncoresLaw" (89 : Nat)) (Jvm.Term.string "EncoresLaw" (145 : Nat))),
 Jvm.Cond.not (Jvm.Cond.eq (Jvm.Term.string "Encores$Tape" (80 : Nat)) (Jvm.Term.string "EncoresLaw" (145 : Nat))),
 Jvm.Cond.not (Jvm.Cond.eq (Jvm.Term.string "EncoresLaw" (109 : Nat)) (Jvm.Term.string "EncoresLaw" (145 : Nat))),
 Jvm.Cond.not (Jvm.Cond.eq (Jvm.Term.string "EncoresLaw" (111 : Nat)) (Jvm.Term.string "EncoresLaw" (145 : Nat))),
 Jvm.Cond.not (Jvm.Cond.eq (Jvm.Term.string "EncoresLaw" (119 : Nat)) (Jvm.Term.string "EncoresLaw" (145 : Nat))),
 Jvm.Cond.not (Jvm.Cond.eq (Jvm.Term.string "EncoresLaw" (121 : Nat)) (Jvm.Term.string "EncoresLaw" (145 : Nat))),
 Jvm.Cond.not (Jvm.Cond.eq (Jvm.Term.string "EncoresLaw" (131 : Nat)) (Jvm.Term.string "EncoresLaw" (145 : Nat))),
 Jvm.Cond.not (Jvm.Cond.eq (Jvm.Term.string "EncoresLaw" (133 : Nat)) (Jvm.Term.string "EncoresLaw" (145 : Nat))),
 Jvm.Cond.not (Jvm.Cond.eq (Jvm.Term.string "EncoresLaw" (135 : Nat)) (Jvm.Term.string "EncoresLaw" (145 : Nat))),
 Jvm.Cond.not (Jvm.Cond.eq (Jvm.Term.string "EncoresLaw" (137 : Nat)) (Jvm.Term.string "EncoresLaw" (145 : Nat))),
 Jvm.Cond.not (Jvm.Cond.eq (Jvm.Term.string "EncoresLaw" (139 : Nat)) (Jvm.Term.string "EncoresLaw" (145 : Nat))),
 Jvm.Cond.not (Jvm.Cond.eq (Jvm.Term.string "EncoresLaw" (141 : Nat)) (Jvm.Term.string "EncoresLaw" (145 : Nat))),
 Jvm.Cond.not (Jvm.Cond.eq (Jvm.Term.string "EncoresLaw" (143 : Nat)) (Jvm.Term.string "EncoresLaw" (145 : Nat))),
 Jvm.Cond.exactly (Jvm.Term.static "java/lang/Integer" "DigitOnes" "[B") "[B",
 Jvm.Cond.exactly (Jvm.Term.static "java/lang/Integer" "DigitTens" "[B") "[B",
 Jvm.Cond.exactly (Jvm.Term.field (Jvm.Term.string "EncoresLaw" (68 : Nat)) "java/lang/String" "value" "[B") "[B",
 Jvm.Cond.exactly (Jvm.Term.field (Jvm.Term.string "EncoresLaw" (77 : Nat)) "java/lang/String" "value" "[B") "[B",
 Jvm.Cond.exactly (Jvm.Term.field (Jvm.Term.string "EncoresLaw" (79 : Nat)) "java/lang/String" "value" "[B") "[B",
 Jvm.Cond.exactly (Jvm.Term.field (Jvm.Term.string "EncoresLaw" (85 : Nat)) "java/lang/String" "value" "[B") "[B",
 Jvm.Cond.exactly (Jvm.Term.field (Jvm.Term.string "EncoresLaw" (87 : Nat)) "java/lang/String" "value" "[B") "[B",
 Jvm.Cond.exactly (Jvm.Term.field (Jvm.Term.string "EncoresLaw" (89 : Nat)) "java/lang/String" "value" "[B") "[B",
 Jvm.Cond.exactly (Jvm.Term.field (Jvm.Term.string "Encores$Tape" (80 : Nat)) "java/lang/String" "value" "[B") "[B",
 Jvm.Cond.exactly (Jvm.Term.field (Jvm.Term.string "EncoresLaw" (109 : Nat)) "java/lang/String" "value" "[B") "[B",
 Jvm.Cond.exactly (Jvm.Term.field (Jvm.Term.string "EncoresLaw" (111 : Nat)) "java/lang/String" "value" "[B") "[B",
 Jvm.Cond.exactly (Jvm.Term.field (Jvm.Term.string "EncoresLaw" (119 : Nat)) "java/lang/String" "value" "[B") "[B",
 Jvm.Cond.exactly (Jvm.Term.field (Jvm.Term.string "EncoresLaw" (121 : Nat)) "java/lang/String" "value" "[B") "[B",
 Jvm.Cond.exactly (Jvm.Term.field (Jvm.Term.string "EncoresLaw" (131 : Nat)) "java/lang/String" "value" "[B") "[B",
 Jvm.Cond.exactly (Jvm.Term.field (Jvm.Term.string "EncoresLaw" (133 : Nat)) "java/lang/String" "value" "[B") "[B",
 Jvm.Cond.exactly (Jvm.Term.field (Jvm.Term.string "EncoresLaw" (135 : Nat)) "java/lang/String" "value" "[B") "[B",
 Jvm.Cond.exactly (Jvm.Term.field (Jvm.Term.string "EncoresLaw" (137 : Nat)) "java/lang/String" "value" "[B") "[B",
 Jvm.Cond.exactly (Jvm.Term.field (Jvm.Term.string "EncoresLaw" (139 : Nat)) "java/lang/String" "value" "[B") "[B",
 Jvm.Cond.exactly (Jvm.Term.field (Jvm.Term.string "EncoresLaw" (141 : Nat)) "java/lang/String" "value" "[B") "[B",
 Jvm.Cond.exactly (Jvm.Term.field (Jvm.Term.string "EncoresLaw" (143 : Nat)) "java/lang/String" "value" "[B") "[B",
 Jvm.Cond.exactly (Jvm.Term.field (Jvm.Term.string "EncoresLaw" (145 : Nat)) "java/lang/String" "value" "[B") "[B"]
set_option maxRecDepth 100000 in
theorem gl_eq : flatC (Jvm.Cond.and given_1 narrow_1) = GL := by decide +kernel
theorem gl_at {w : Cond} (k : Nat) (h : GL[k]? = some w) : w ∈ flatC (Jvm.Cond.and given_1 narrow_1) := by
  rw [gl_eq]; exact List.mem_of_getElem? h
def tmS (i : Nat) : Term := match strAll[i + 0]? with
  | some q => .string q.1 q.2.1
  | none => .arg 0
set_option maxRecDepth 100000 in
theorem gs_ex : ∀ i, i < strN → Cond.exactly (tmS i) "java/lang/String" ∈ flatC (Jvm.Cond.and given_1 narrow_1) := by
  intro i hi
  match i, hi with
  | 0, _ => exact gl_at 311 rfl
  | i + 1, hi => exact absurd hi (by unfold strN; omega)
set_option maxRecDepth 100000 in
theorem gs_co : ∀ i, i < strN → Cond.eq (.field (tmS i) "java/lang/String" "coder" "B") (.int 0) ∈ flatC (Jvm.Cond.and given_1 narrow_1) := by
  intro i hi
  match i, hi with
  | 0, _ => exact gl_at 312 rfl
  | i + 1, hi => exact absurd hi (by unfold strN; omega)
set_option maxRecDepth 100000 in
theorem gs_ar : ∀ i, i < strN → Cond.arrayOf (.field (tmS i) "java/lang/String" "value" "[B") .byte ∈ flatC (Jvm.Cond.and given_1 narrow_1) := by
  intro i hi
  match i, hi with
  | 0, _ => exact gl_at 313 rfl
  | i + 1, hi => exact absurd hi (by unfold strN; omega)
set_option maxRecDepth 100000 in
theorem gs_le : ∀ i, i < strN → Cond.eq (.length (.field (tmS i) "java/lang/String" "value" "[B")) (.int (Int32.ofNat (strLen.getD i 0))) ∈ flatC (Jvm.Cond.and given_1 narrow_1) := by
  intro i hi
  match i, hi with
  | 0, _ => exact gl_at 314 rfl
  | i + 1, hi => exact absurd hi (by unfold strN; omega)
set_option maxRecDepth 100000 in
theorem gs_el0 : ∀ j, j < strLen.getD 0 0 → Cond.eq (.elem (.field (tmS 0) "java/lang/String" "value" "[B") (.int (Int32.ofNat j))) (.int ((strByt.getD 0 []).getD j 0)) ∈ flatC (Jvm.Cond.and given_1 narrow_1) := by
  intro j hj
  have hj : j < 123 := hj
  match j, hj with
  | 0, _ => exact gl_at 315 rfl
  | 1, _ => exact gl_at 316 rfl
  | 2, _ => exact gl_at 317 rfl
  | 3, _ => exact gl_at 318 rfl
  | 4, _ => exact gl_at 319 rfl
  | 5, _ => exact gl_at 320 rfl
  | 6, _ => exact gl_at 321 rfl
  | 7, _ => exact gl_at 322 rfl
  | 8, _ => exact gl_at 323 rfl
  | 9, _ => exact gl_at 324 rfl
  | 10, _ => exact gl_at 325 rfl
  | 11, _ => exact gl_at 326 rfl
  | 12, _ => exact gl_at 327 rfl
  | 13, _ => exact gl_at 328 rfl
  | 14, _ => exact gl_at 329 rfl
  | 15, _ => exact gl_at 330 rfl
  | 16, _ => exact gl_at 331 rfl
  | 17, _ => exact gl_at 332 rfl
  | 18, _ => exact gl_at 333 rfl
  | 19, _ => exact gl_at 334 rfl
  | 20, _ => exact gl_at 335 rfl
  | 21, _ => exact gl_at 336 rfl
  | 22, _ => exact gl_at 337 rfl
  | 23, _ => exact gl_at 338 rfl
  | 24, _ => exact gl_at 339 rfl
  | 25, _ => exact gl_at 340 rfl
  | 26, _ => exact gl_at 341 rfl
  | 27, _ => exact gl_at 342 rfl
  | 28, _ => exact gl_at 343 rfl
  | 29, _ => exact gl_at 344 rfl
  | 30, _ => exact gl_at 345 rfl
  | 31, _ => exact gl_at 346 rfl
  | 32, _ => exact gl_at 347 rfl
  | 33, _ => exact gl_at 348 rfl
  | 34, _ => exact gl_at 349 rfl
  | 35, _ => exact gl_at 350 rfl
  | 36, _ => exact gl_at 351 rfl
  | 37, _ => exact gl_at 352 rfl
  | 38, _ => exact gl_at 353 rfl
  | 39, _ => exact gl_at 354 rfl
  | 40, _ => exact gl_at 355 rfl
  | 41, _ => exact gl_at 356 rfl
  | 42, _ => exact gl_at 357 rfl
  | 43, _ => exact gl_at 358 rfl
  | 44, _ => exact gl_at 359 rfl
  | 45, _ => exact gl_at 360 rfl
  | 46, _ => exact gl_at 361 rfl
  | 47, _ => exact gl_at 362 rfl
  | 48, _ => exact gl_at 363 rfl
  | 49, _ => exact gl_at 364 rfl
  | 50, _ => exact gl_at 365 rfl
  | 51, _ => exact gl_at 366 rfl
  | 52, _ => exact gl_at 367 rfl
  | 53, _ => exact gl_at 368 rfl
  | 54, _ => exact gl_at 369 rfl
  | 55, _ => exact gl_at 370 rfl
  | 56, _ => exact gl_at 371 rfl
  | 57, _ => exact gl_at 372 rfl
  | 58, _ => exact gl_at 373 rfl
  | 59, _ => exact gl_at 374 rfl
  | 60, _ => exact gl_at 375 rfl
  | 61, _ => exact gl_at 376 rfl
  | 62, _ => exact gl_at 377 rfl
  | 63, _ => exact gl_at 378 rfl
  | 64, _ => exact gl_at 379 rfl
  | 65, _ => exact gl_at 380 rfl
  | 66, _ => exact gl_at 381 rfl
  | 67, _ => exact gl_at 382 rfl
  | 68, _ => exact gl_at 383 rfl
  | 69, _ => exact gl_at 384 rfl
  | 70, _ => exact gl_at 385 rfl
  | 71, _ => exact gl_at 386 rfl
  | 72, _ => exact gl_at 387 rfl
  | 73, _ => exact gl_at 388 rfl
  | 74, _ => exact gl_at 389 rfl
  | 75, _ => exact gl_at 390 rfl
  | 76, _ => exact gl_at 391 rfl
  | 77, _ => exact gl_at 392 rfl
  | 78, _ => exact gl_at 393 rfl
  | 79, _ => exact gl_at 394 rfl
  | 80, _ => exact gl_at 395 rfl
  | 81, _ => exact gl_at 396 rfl
  | 82, _ => exact gl_at 397 rfl
  | 83, _ => exact gl_at 398 rfl
  | 84, _ => exact gl_at 399 rfl
  | 85, _ => exact gl_at 400 rfl
  | 86, _ => exact gl_at 401 rfl
  | 87, _ => exact gl_at 402 rfl
  | 88, _ => exact gl_at 403 rfl
  | 89, _ => exact gl_at 404 rfl
  | 90, _ => exact gl_at 405 rfl
  | 91, _ => exact gl_at 406 rfl
  | 92, _ => exact gl_at 407 rfl
  | 93, _ => exact gl_at 408 rfl
  | 94, _ => exact gl_at 409 rfl
  | 95, _ => exact gl_at 410 rfl
  | 96, _ => exact gl_at 411 rfl
  | 97, _ => exact gl_at 412 rfl
  | 98, _ => exact gl_at 413 rfl
  | 99, _ => exact gl_at 414 rfl
  | 100, _ => exact gl_at 415 rfl
  | 101, _ => exact gl_at 416 rfl
  | 102, _ => exact gl_at 417 rfl
  | 103, _ => exact gl_at 418 rfl
  | 104, _ => exact gl_at 419 rfl
  | 105, _ => exact gl_at 420 rfl
  | 106, _ => exact gl_at 421 rfl
  | 107, _ => exact gl_at 422 rfl
  | 108, _ => exact gl_at 423 rfl
  | 109, _ => exact gl_at 424 rfl
  | 110, _ => exact gl_at 425 rfl
  | 111, _ => exact gl_at 426 rfl
  | 112, _ => exact gl_at 427 rfl
  | 113, _ => exact gl_at 428 rfl
  | 114, _ => exact gl_at 429 rfl
  | 115, _ => exact gl_at 430 rfl
  | 116, _ => exact gl_at 431 rfl
  | 117, _ => exact gl_at 432 rfl
  | 118, _ => exact gl_at 433 rfl
  | 119, _ => exact gl_at 434 rfl
  | 120, _ => exact gl_at 435 rfl
  | 121, _ => exact gl_at 436 rfl
  | 122, _ => exact gl_at 437 rfl
  | j + 123, hj => exact absurd hj (by omega)
set_option maxRecDepth 100000 in
theorem gs_el : ∀ i, i < strN → ∀ j, j < strLen.getD i 0 → Cond.eq (.elem (.field (tmS i) "java/lang/String" "value" "[B") (.int (Int32.ofNat j))) (.int ((strByt.getD i []).getD j 0)) ∈ flatC (Jvm.Cond.and given_1 narrow_1) := by
  intro i hi
  match i, hi with
  | 0, _ => exact gs_el0
  | i + 1, hi => exact absurd hi (by unfold strN; omega)
set_option maxRecDepth 100000 in
theorem gs_ne0 : ∀ j, j < strN → 0 < j → Cond.not (Cond.eq (tmS 0) (tmS j)) ∈ flatC (Jvm.Cond.and given_1 narrow_1) := by
  intro j hj hij
  match j, hj, hij with
  | 0, _, h => exact absurd h (by omega)
  | j + 1, hj, _ => exact absurd hj (by unfold strN; omega)
set_option maxRecDepth 100000 in
theorem gs_ne : ∀ i, i < strN → ∀ j, j < strN → i < j → Cond.not (Cond.eq (tmS i) (tmS j)) ∈ flatC (Jvm.Cond.and given_1 narrow_1) := by
  intro i hi
  match i, hi with
  | 0, _ => exact gs_ne0
  | i + 1, hi => exact absurd hi (by unfold strN; omega)
def tmL (i : Nat) : Term := match strAll[i + 1]? with
  | some q => .string q.1 q.2.1
  | none => .arg 0
set_option maxRecDepth 100000 in
theorem gl_ex : ∀ i, i < lwN → Cond.exactly (tmL i) "java/lang/String" ∈ flatC (Jvm.Cond.and given_1 narrow_1) := by
  intro i hi
  match i, hi with
  | 0, _ => exact gl_at 243 rfl
  | 1, _ => exact gl_at 253 rfl
  | 2, _ => exact gl_at 264 rfl
  | 3, _ => exact gl_at 271 rfl
  | 4, _ => exact gl_at 283 rfl
  | 5, _ => exact gl_at 295 rfl
  | 6, _ => exact gl_at 444 rfl
  | 7, _ => exact gl_at 458 rfl
  | 8, _ => exact gl_at 476 rfl
  | 9, _ => exact gl_at 496 rfl
  | 10, _ => exact gl_at 518 rfl
  | 11, _ => exact gl_at 544 rfl
  | 12, _ => exact gl_at 578 rfl
  | 13, _ => exact gl_at 625 rfl
  | 14, _ => exact gl_at 661 rfl
  | 15, _ => exact gl_at 699 rfl
  | 16, _ => exact gl_at 814 rfl
  | 17, _ => exact gl_at 842 rfl
  | i + 18, hi => exact absurd hi (by unfold lwN; omega)
set_option maxRecDepth 100000 in
theorem gl_co : ∀ i, i < lwN → Cond.eq (.field (tmL i) "java/lang/String" "coder" "B") (.int 0) ∈ flatC (Jvm.Cond.and given_1 narrow_1) := by
  intro i hi
  match i, hi with
  | 0, _ => exact gl_at 244 rfl
  | 1, _ => exact gl_at 254 rfl
  | 2, _ => exact gl_at 265 rfl
  | 3, _ => exact gl_at 272 rfl
  | 4, _ => exact gl_at 284 rfl
  | 5, _ => exact gl_at 296 rfl
  | 6, _ => exact gl_at 445 rfl
  | 7, _ => exact gl_at 459 rfl
  | 8, _ => exact gl_at 477 rfl
  | 9, _ => exact gl_at 497 rfl
  | 10, _ => exact gl_at 519 rfl
  | 11, _ => exact gl_at 545 rfl
  | 12, _ => exact gl_at 579 rfl
  | 13, _ => exact gl_at 626 rfl
  | 14, _ => exact gl_at 662 rfl
  | 15, _ => exact gl_at 700 rfl
  | 16, _ => exact gl_at 815 rfl
  | 17, _ => exact gl_at 843 rfl
  | i + 18, hi => exact absurd hi (by unfold lwN; omega)
set_option maxRecDepth 100000 in
theorem gl_ar : ∀ i, i < lwN → Cond.arrayOf (.field (tmL i) "java/lang/String" "value" "[B") .byte ∈ flatC (Jvm.Cond.and given_1 narrow_1) := by
  intro i hi
  match i, hi with
  | 0, _ => exact gl_at 245 rfl
  | 1, _ => exact gl_at 255 rfl
  | 2, _ => exact gl_at 266 rfl
  | 3, _ => exact gl_at 273 rfl
  | 4, _ => exact gl_at 285 rfl
  | 5, _ => exact gl_at 297 rfl
  | 6, _ => exact gl_at 446 rfl
  | 7, _ => exact gl_at 460 rfl
  | 8, _ => exact gl_at 478 rfl
  | 9, _ => exact gl_at 498 rfl
  | 10, _ => exact gl_at 520 rfl
  | 11, _ => exact gl_at 546 rfl
  | 12, _ => exact gl_at 580 rfl
  | 13, _ => exact gl_at 627 rfl
  | 14, _ => exact gl_at 663 rfl
  | 15, _ => exact gl_at 701 rfl
  | 16, _ => exact gl_at 816 rfl
  | 17, _ => exact gl_at 844 rfl
  | i + 18, hi => exact absurd hi (by unfold lwN; omega)
set_option maxRecDepth 100000 in
theorem gl_le : ∀ i, i < lwN → Cond.eq (.length (.field (tmL i) "java/lang/String" "value" "[B")) (.int (Int32.ofNat (lwLen.getD i 0))) ∈ flatC (Jvm.Cond.and given_1 narrow_1) := by
  intro i hi
  match i, hi with
  | 0, _ => exact gl_at 246 rfl
  | 1, _ => exact gl_at 256 rfl
  | 2, _ => exact gl_at 267 rfl
  | 3, _ => exact gl_at 274 rfl
  | 4, _ => exact gl_at 286 rfl
  | 5, _ => exact gl_at 298 rfl
  | 6, _ => exact gl_at 447 rfl
  | 7, _ => exact gl_at 461 rfl
  | 8, _ => exact gl_at 479 rfl
  | 9, _ => exact gl_at 499 rfl
  | 10, _ => exact gl_at 521 rfl
  | 11, _ => exact gl_at 547 rfl
  | 12, _ => exact gl_at 581 rfl
  | 13, _ => exact gl_at 628 rfl
  | 14, _ => exact gl_at 664 rfl
  | 15, _ => exact gl_at 702 rfl
  | 16, _ => exact gl_at 817 rfl
  | 17, _ => exact gl_at 845 rfl
  | i + 18, hi => exact absurd hi (by unfold lwN; omega)
set_option maxRecDepth 100000 in
theorem gl_el0 : ∀ j, j < lwLen.getD 0 0 → Cond.eq (.elem (.field (tmL 0) "java/lang/String" "value" "[B") (.int (Int32.ofNat j))) (.int ((lwByt.getD 0 []).getD j 0)) ∈ flatC (Jvm.Cond.and given_1 narrow_1) := by
  intro j hj
  have hj : j < 6 := hj
  match j, hj with
  | 0, _ => exact gl_at 247 rfl
  | 1, _ => exact gl_at 248 rfl
  | 2, _ => exact gl_at 249 rfl
  | 3, _ => exact gl_at 250 rfl
  | 4, _ => exact gl_at 251 rfl
  | 5, _ => exact gl_at 252 rfl
  | j + 6, hj => exact absurd hj (by omega)
set_option maxRecDepth 100000 in
theorem gl_el1 : ∀ j, j < lwLen.getD 1 0 → Cond.eq (.elem (.field (tmL 1) "java/lang/String" "value" "[B") (.int (Int32.ofNat j))) (.int ((lwByt.getD 1 []).getD j 0)) ∈ flatC (Jvm.Cond.and given_1 narrow_1) := by
  intro j hj
  have hj : j < 6 := hj
  match j, hj with
  | 0, _ => exact gl_at 257 rfl
  | 1, _ => exact gl_at 258 rfl
  | 2, _ => exact gl_at 259 rfl
  | 3, _ => exact gl_at 260 rfl
  | 4, _ => exact gl_at 261 rfl
  | 5, _ => exact gl_at 262 rfl
  | j + 6, hj => exact absurd hj (by omega)
set_option maxRecDepth 100000 in
theorem gl_el2 : ∀ j, j < lwLen.getD 2 0 → Cond.eq (.elem (.field (tmL 2) "java/lang/String" "value" "[B") (.int (Int32.ofNat j))) (.int ((lwByt.getD 2 []).getD j 0)) ∈ flatC (Jvm.Cond.and given_1 narrow_1) := by
  intro j hj
  have hj : j < 1 := hj
  match j, hj with
  | 0, _ => exact gl_at 268 rfl
  | j + 1, hj => exact absurd hj (by omega)
set_option maxRecDepth 100000 in
theorem gl_el3 : ∀ j, j < lwLen.getD 3 0 → Cond.eq (.elem (.field (tmL 3) "java/lang/String" "value" "[B") (.int (Int32.ofNat j))) (.int ((lwByt.getD 3 []).getD j 0)) ∈ flatC (Jvm.Cond.and given_1 narrow_1) := by
  intro j hj
  have hj : j < 5 := hj
  match j, hj with
  | 0, _ => exact gl_at 275 rfl
  | 1, _ => exact gl_at 276 rfl
  | 2, _ => exact gl_at 277 rfl
  | 3, _ => exact gl_at 278 rfl
  | 4, _ => exact gl_at 279 rfl
  | j + 5, hj => exact absurd hj (by omega)
set_option maxRecDepth 100000 in
theorem gl_el4 : ∀ j, j < lwLen.getD 4 0 → Cond.eq (.elem (.field (tmL 4) "java/lang/String" "value" "[B") (.int (Int32.ofNat j))) (.int ((lwByt.getD 4 []).getD j 0)) ∈ flatC (Jvm.Cond.and given_1 narrow_1) := by
  intro j hj
  have hj : j < 4 := hj
  match j, hj with
  | 0, _ => exact gl_at 287 rfl
  | 1, _ => exact gl_at 288 rfl
  | 2, _ => exact gl_at 289 rfl
  | 3, _ => exact gl_at 290 rfl
  | j + 4, hj => exact absurd hj (by omega)
set_option maxRecDepth 100000 in
theorem gl_el5 : ∀ j, j < lwLen.getD 5 0 → Cond.eq (.elem (.field (tmL 5) "java/lang/String" "value" "[B") (.int (Int32.ofNat j))) (.int ((lwByt.getD 5 []).getD j 0)) ∈ flatC (Jvm.Cond.and given_1 narrow_1) := by
  intro j hj
  have hj : j < 7 := hj
  match j, hj with
  | 0, _ => exact gl_at 299 rfl
  | 1, _ => exact gl_at 300 rfl
  | 2, _ => exact gl_at 301 rfl
  | 3, _ => exact gl_at 302 rfl
  | 4, _ => exact gl_at 303 rfl
  | 5, _ => exact gl_at 304 rfl
  | 6, _ => exact gl_at 305 rfl
  | j + 7, hj => exact absurd hj (by omega)
set_option maxRecDepth 100000 in
theorem gl_el6 : ∀ j, j < lwLen.getD 6 0 → Cond.eq (.elem (.field (tmL 6) "java/lang/String" "value" "[B") (.int (Int32.ofNat j))) (.int ((lwByt.getD 6 []).getD j 0)) ∈ flatC (Jvm.Cond.and given_1 narrow_1) := by
  intro j hj
  have hj : j < 3 := hj
  match j, hj with
  | 0, _ => exact gl_at 448 rfl
  | 1, _ => exact gl_at 449 rfl
  | 2, _ => exact gl_at 450 rfl
  | j + 3, hj => exact absurd hj (by omega)
set_option maxRecDepth 100000 in
theorem gl_el7 : ∀ j, j < lwLen.getD 7 0 → Cond.eq (.elem (.field (tmL 7) "java/lang/String" "value" "[B") (.int (Int32.ofNat j))) (.int ((lwByt.getD 7 []).getD j 0)) ∈ flatC (Jvm.Cond.and given_1 narrow_1) := by
  intro j hj
  have hj : j < 6 := hj
  match j, hj with
  | 0, _ => exact gl_at 462 rfl
  | 1, _ => exact gl_at 463 rfl
  | 2, _ => exact gl_at 464 rfl
  | 3, _ => exact gl_at 465 rfl
  | 4, _ => exact gl_at 466 rfl
  | 5, _ => exact gl_at 467 rfl
  | j + 6, hj => exact absurd hj (by omega)
set_option maxRecDepth 100000 in
theorem gl_el8 : ∀ j, j < lwLen.getD 8 0 → Cond.eq (.elem (.field (tmL 8) "java/lang/String" "value" "[B") (.int (Int32.ofNat j))) (.int ((lwByt.getD 8 []).getD j 0)) ∈ flatC (Jvm.Cond.and given_1 narrow_1) := by
  intro j hj
  have hj : j < 7 := hj
  match j, hj with
  | 0, _ => exact gl_at 480 rfl
  | 1, _ => exact gl_at 481 rfl
  | 2, _ => exact gl_at 482 rfl
  | 3, _ => exact gl_at 483 rfl
  | 4, _ => exact gl_at 484 rfl
  | 5, _ => exact gl_at 485 rfl
  | 6, _ => exact gl_at 486 rfl
  | j + 7, hj => exact absurd hj (by omega)
set_option maxRecDepth 100000 in
theorem gl_el9 : ∀ j, j < lwLen.getD 9 0 → Cond.eq (.elem (.field (tmL 9) "java/lang/String" "value" "[B") (.int (Int32.ofNat j))) (.int ((lwByt.getD 9 []).getD j 0)) ∈ flatC (Jvm.Cond.and given_1 narrow_1) := by
  intro j hj
  have hj : j < 8 := hj
  match j, hj with
  | 0, _ => exact gl_at 500 rfl
  | 1, _ => exact gl_at 501 rfl
  | 2, _ => exact gl_at 502 rfl
  | 3, _ => exact gl_at 503 rfl
  | 4, _ => exact gl_at 504 rfl
  | 5, _ => exact gl_at 505 rfl
  | 6, _ => exact gl_at 506 rfl
  | 7, _ => exact gl_at 507 rfl
  | j + 8, hj => exact absurd hj (by omega)
set_option maxRecDepth 100000 in
theorem gl_el10 : ∀ j, j < lwLen.getD 10 0 → Cond.eq (.elem (.field (tmL 10) "java/lang/String" "value" "[B") (.int (Int32.ofNat j))) (.int ((lwByt.getD 10 []).getD j 0)) ∈ flatC (Jvm.Cond.and given_1 narrow_1) := by
  intro j hj
  have hj : j < 11 := hj
  match j, hj with
  | 0, _ => exact gl_at 522 rfl
  | 1, _ => exact gl_at 523 rfl
  | 2, _ => exact gl_at 524 rfl
  | 3, _ => exact gl_at 525 rfl
  | 4, _ => exact gl_at 526 rfl
  | 5, _ => exact gl_at 527 rfl
  | 6, _ => exact gl_at 528 rfl
  | 7, _ => exact gl_at 529 rfl
  | 8, _ => exact gl_at 530 rfl
  | 9, _ => exact gl_at 531 rfl
  | 10, _ => exact gl_at 532 rfl
  | j + 11, hj => exact absurd hj (by omega)
set_option maxRecDepth 100000 in
theorem gl_el11 : ∀ j, j < lwLen.getD 11 0 → Cond.eq (.elem (.field (tmL 11) "java/lang/String" "value" "[B") (.int (Int32.ofNat j))) (.int ((lwByt.getD 11 []).getD j 0)) ∈ flatC (Jvm.Cond.and given_1 narrow_1) := by
  intro j hj
  have hj : j < 18 := hj
  match j, hj with
  | 0, _ => exact gl_at 548 rfl
  | 1, _ => exact gl_at 549 rfl
  | 2, _ => exact gl_at 550 rfl
  | 3, _ => exact gl_at 551 rfl
  | 4, _ => exact gl_at 552 rfl
  | 5, _ => exact gl_at 553 rfl
  | 6, _ => exact gl_at 554 rfl
  | 7, _ => exact gl_at 555 rfl
  | 8, _ => exact gl_at 556 rfl
  | 9, _ => exact gl_at 557 rfl
  | 10, _ => exact gl_at 558 rfl
  | 11, _ => exact gl_at 559 rfl
  | 12, _ => exact gl_at 560 rfl
  | 13, _ => exact gl_at 561 rfl
  | 14, _ => exact gl_at 562 rfl
  | 15, _ => exact gl_at 563 rfl
  | 16, _ => exact gl_at 564 rfl
  | 17, _ => exact gl_at 565 rfl
  | j + 18, hj => exact absurd hj (by omega)
set_option maxRecDepth 100000 in
theorem gl_el12 : ∀ j, j < lwLen.getD 12 0 → Cond.eq (.elem (.field (tmL 12) "java/lang/String" "value" "[B") (.int (Int32.ofNat j))) (.int ((lwByt.getD 12 []).getD j 0)) ∈ flatC (Jvm.Cond.and given_1 narrow_1) := by
  intro j hj
  have hj : j < 30 := hj
  match j, hj with
  | 0, _ => exact gl_at 582 rfl
  | 1, _ => exact gl_at 583 rfl
  | 2, _ => exact gl_at 584 rfl
  | 3, _ => exact gl_at 585 rfl
  | 4, _ => exact gl_at 586 rfl
  | 5, _ => exact gl_at 587 rfl
  | 6, _ => exact gl_at 588 rfl
  | 7, _ => exact gl_at 589 rfl
  | 8, _ => exact gl_at 590 rfl
  | 9, _ => exact gl_at 591 rfl
  | 10, _ => exact gl_at 592 rfl
  | 11, _ => exact gl_at 593 rfl
  | 12, _ => exact gl_at 594 rfl
  | 13, _ => exact gl_at 595 rfl
  | 14, _ => exact gl_at 596 rfl
  | 15, _ => exact gl_at 597 rfl
  | 16, _ => exact gl_at 598 rfl
  | 17, _ => exact gl_at 599 rfl
  | 18, _ => exact gl_at 600 rfl
  | 19, _ => exact gl_at 601 rfl
  | 20, _ => exact gl_at 602 rfl
  | 21, _ => exact gl_at 603 rfl
  | 22, _ => exact gl_at 604 rfl
  | 23, _ => exact gl_at 605 rfl
  | 24, _ => exact gl_at 606 rfl
  | 25, _ => exact gl_at 607 rfl
  | 26, _ => exact gl_at 608 rfl
  | 27, _ => exact gl_at 609 rfl
  | 28, _ => exact gl_at 610 rfl
  | 29, _ => exact gl_at 611 rfl
  | j + 30, hj => exact absurd hj (by omega)
set_option maxRecDepth 100000 in
theorem gl_el13 : ∀ j, j < lwLen.getD 13 0 → Cond.eq (.elem (.field (tmL 13) "java/lang/String" "value" "[B") (.int (Int32.ofNat j))) (.int ((lwByt.getD 13 []).getD j 0)) ∈ flatC (Jvm.Cond.and given_1 narrow_1) := by
  intro j hj
  have hj : j < 18 := hj
  match j, hj with
  | 0, _ => exact gl_at 629 rfl
  | 1, _ => exact gl_at 630 rfl
  | 2, _ => exact gl_at 631 rfl
  | 3, _ => exact gl_at 632 rfl
  | 4, _ => exact gl_at 633 rfl
  | 5, _ => exact gl_at 634 rfl
  | 6, _ => exact gl_at 635 rfl
  | 7, _ => exact gl_at 636 rfl
  | 8, _ => exact gl_at 637 rfl
  | 9, _ => exact gl_at 638 rfl
  | 10, _ => exact gl_at 639 rfl
  | 11, _ => exact gl_at 640 rfl
  | 12, _ => exact gl_at 641 rfl
  | 13, _ => exact gl_at 642 rfl
  | 14, _ => exact gl_at 643 rfl
  | 15, _ => exact gl_at 644 rfl
  | 16, _ => exact gl_at 645 rfl
  | 17, _ => exact gl_at 646 rfl
  | j + 18, hj => exact absurd hj (by omega)
set_option maxRecDepth 100000 in
theorem gl_el14 : ∀ j, j < lwLen.getD 14 0 → Cond.eq (.elem (.field (tmL 14) "java/lang/String" "value" "[B") (.int (Int32.ofNat j))) (.int ((lwByt.getD 14 []).getD j 0)) ∈ flatC (Jvm.Cond.and given_1 narrow_1) := by
  intro j hj
  have hj : j < 19 := hj
  match j, hj with
  | 0, _ => exact gl_at 665 rfl
  | 1, _ => exact gl_at 666 rfl
  | 2, _ => exact gl_at 667 rfl
  | 3, _ => exact gl_at 668 rfl
  | 4, _ => exact gl_at 669 rfl
  | 5, _ => exact gl_at 670 rfl
  | 6, _ => exact gl_at 671 rfl
  | 7, _ => exact gl_at 672 rfl
  | 8, _ => exact gl_at 673 rfl
  | 9, _ => exact gl_at 674 rfl
  | 10, _ => exact gl_at 675 rfl
  | 11, _ => exact gl_at 676 rfl
  | 12, _ => exact gl_at 677 rfl
  | 13, _ => exact gl_at 678 rfl
  | 14, _ => exact gl_at 679 rfl
  | 15, _ => exact gl_at 680 rfl
  | 16, _ => exact gl_at 681 rfl
  | 17, _ => exact gl_at 682 rfl
  | 18, _ => exact gl_at 683 rfl
  | j + 19, hj => exact absurd hj (by omega)
set_option maxRecDepth 100000 in
theorem gl_el15 : ∀ j, j < lwLen.getD 15 0 → Cond.eq (.elem (.field (tmL 15) "java/lang/String" "value" "[B") (.int (Int32.ofNat j))) (.int ((lwByt.getD 15 []).getD j 0)) ∈ flatC (Jvm.Cond.and given_1 narrow_1) := by
  intro j hj
  have hj : j < 95 := hj
  match j, hj with
  | 0, _ => exact gl_at 703 rfl
  | 1, _ => exact gl_at 704 rfl
  | 2, _ => exact gl_at 705 rfl
  | 3, _ => exact gl_at 706 rfl
  | 4, _ => exact gl_at 707 rfl
  | 5, _ => exact gl_at 708 rfl
  | 6, _ => exact gl_at 709 rfl
  | 7, _ => exact gl_at 710 rfl
  | 8, _ => exact gl_at 711 rfl
  | 9, _ => exact gl_at 712 rfl
  | 10, _ => exact gl_at 713 rfl
  | 11, _ => exact gl_at 714 rfl
  | 12, _ => exact gl_at 715 rfl
  | 13, _ => exact gl_at 716 rfl
  | 14, _ => exact gl_at 717 rfl
  | 15, _ => exact gl_at 718 rfl
  | 16, _ => exact gl_at 719 rfl
  | 17, _ => exact gl_at 720 rfl
  | 18, _ => exact gl_at 721 rfl
  | 19, _ => exact gl_at 722 rfl
  | 20, _ => exact gl_at 723 rfl
  | 21, _ => exact gl_at 724 rfl
  | 22, _ => exact gl_at 725 rfl
  | 23, _ => exact gl_at 726 rfl
  | 24, _ => exact gl_at 727 rfl
  | 25, _ => exact gl_at 728 rfl
  | 26, _ => exact gl_at 729 rfl
  | 27, _ => exact gl_at 730 rfl
  | 28, _ => exact gl_at 731 rfl
  | 29, _ => exact gl_at 732 rfl
  | 30, _ => exact gl_at 733 rfl
  | 31, _ => exact gl_at 734 rfl
  | 32, _ => exact gl_at 735 rfl
  | 33, _ => exact gl_at 736 rfl
  | 34, _ => exact gl_at 737 rfl
  | 35, _ => exact gl_at 738 rfl
  | 36, _ => exact gl_at 739 rfl
  | 37, _ => exact gl_at 740 rfl
  | 38, _ => exact gl_at 741 rfl
  | 39, _ => exact gl_at 742 rfl
  | 40, _ => exact gl_at 743 rfl
  | 41, _ => exact gl_at 744 rfl
  | 42, _ => exact gl_at 745 rfl
  | 43, _ => exact gl_at 746 rfl
  | 44, _ => exact gl_at 747 rfl
  | 45, _ => exact gl_at 748 rfl
  | 46, _ => exact gl_at 749 rfl
  | 47, _ => exact gl_at 750 rfl
  | 48, _ => exact gl_at 751 rfl
  | 49, _ => exact gl_at 752 rfl
  | 50, _ => exact gl_at 753 rfl
  | 51, _ => exact gl_at 754 rfl
  | 52, _ => exact gl_at 755 rfl
  | 53, _ => exact gl_at 756 rfl
  | 54, _ => exact gl_at 757 rfl
  | 55, _ => exact gl_at 758 rfl
  | 56, _ => exact gl_at 759 rfl
  | 57, _ => exact gl_at 760 rfl
  | 58, _ => exact gl_at 761 rfl
  | 59, _ => exact gl_at 762 rfl
  | 60, _ => exact gl_at 763 rfl
  | 61, _ => exact gl_at 764 rfl
  | 62, _ => exact gl_at 765 rfl
  | 63, _ => exact gl_at 766 rfl
  | 64, _ => exact gl_at 767 rfl
  | 65, _ => exact gl_at 768 rfl
  | 66, _ => exact gl_at 769 rfl
  | 67, _ => exact gl_at 770 rfl
  | 68, _ => exact gl_at 771 rfl
  | 69, _ => exact gl_at 772 rfl
  | 70, _ => exact gl_at 773 rfl
  | 71, _ => exact gl_at 774 rfl
  | 72, _ => exact gl_at 775 rfl
  | 73, _ => exact gl_at 776 rfl
  | 74, _ => exact gl_at 777 rfl
  | 75, _ => exact gl_at 778 rfl
  | 76, _ => exact gl_at 779 rfl
  | 77, _ => exact gl_at 780 rfl
  | 78, _ => exact gl_at 781 rfl
  | 79, _ => exact gl_at 782 rfl
  | 80, _ => exact gl_at 783 rfl
  | 81, _ => exact gl_at 784 rfl
  | 82, _ => exact gl_at 785 rfl
  | 83, _ => exact gl_at 786 rfl
  | 84, _ => exact gl_at 787 rfl
  | 85, _ => exact gl_at 788 rfl
  | 86, _ => exact gl_at 789 rfl
  | 87, _ => exact gl_at 790 rfl
  | 88, _ => exact gl_at 791 rfl
  | 89, _ => exact gl_at 792 rfl
  | 90, _ => exact gl_at 793 rfl
  | 91, _ => exact gl_at 794 rfl
  | 92, _ => exact gl_at 795 rfl
  | 93, _ => exact gl_at 796 rfl
  | 94, _ => exact gl_at 797 rfl
  | j + 95, hj => exact absurd hj (by omega)
set_option maxRecDepth 100000 in
theorem gl_el16 : ∀ j, j < lwLen.getD 16 0 → Cond.eq (.elem (.field (tmL 16) "java/lang/String" "value" "[B") (.int (Int32.ofNat j))) (.int ((lwByt.getD 16 []).getD j 0)) ∈ flatC (Jvm.Cond.and given_1 narrow_1) := by
  intro j hj
  have hj : j < 7 := hj
  match j, hj with
  | 0, _ => exact gl_at 818 rfl
  | 1, _ => exact gl_at 819 rfl
  | 2, _ => exact gl_at 820 rfl
  | 3, _ => exact gl_at 821 rfl
  | 4, _ => exact gl_at 822 rfl
  | 5, _ => exact gl_at 823 rfl
  | 6, _ => exact gl_at 824 rfl
  | j + 7, hj => exact absurd hj (by omega)
set_option maxRecDepth 100000 in
theorem gl_el17 : ∀ j, j < lwLen.getD 17 0 → Cond.eq (.elem (.field (tmL 17) "java/lang/String" "value" "[B") (.int (Int32.ofNat j))) (.int ((lwByt.getD 17 []).getD j 0)) ∈ flatC (Jvm.Cond.and given_1 narrow_1) := by
  intro j hj
  have hj : j < 7 := hj
  match j, hj with
  | 0, _ => exact gl_at 846 rfl
  | 1, _ => exact gl_at 847 rfl
  | 2, _ => exact gl_at 848 rfl
  | 3, _ => exact gl_at 849 rfl
  | 4, _ => exact gl_at 850 rfl
  | 5, _ => exact gl_at 851 rfl
  | 6, _ => exact gl_at 852 rfl
  | j + 7, hj => exact absurd hj (by omega)
set_option maxRecDepth 100000 in
theorem gl_el : ∀ i, i < lwN → ∀ j, j < lwLen.getD i 0 → Cond.eq (.elem (.field (tmL i) "java/lang/String" "value" "[B") (.int (Int32.ofNat j))) (.int ((lwByt.getD i []).getD j 0)) ∈ flatC (Jvm.Cond.and given_1 narrow_1) := by
  intro i hi
  match i, hi with
  | 0, _ => exact gl_el0
  | 1, _ => exact gl_el1
  | 2, _ => exact gl_el2
  | 3, _ => exact gl_el3
  | 4, _ => exact gl_el4
  | 5, _ => exact gl_el5
  | 6, _ => exact gl_el6
  | 7, _ => exact gl_el7
  | 8, _ => exact gl_el8
  | 9, _ => exact gl_el9
  | 10, _ => exact gl_el10
  | 11, _ => exact gl_el11
  | 12, _ => exact gl_el12
  | 13, _ => exact gl_el13
  | 14, _ => exact gl_el14
  | 15, _ => exact gl_el15
  | 16, _ => exact gl_el16
  | 17, _ => exact gl_el17
  | i + 18, hi => exact absurd hi (by unfold lwN; omega)
set_option maxRecDepth 100000 in
theorem gl_ne0 : ∀ j, j < lwN → 0 < j → Cond.not (Cond.eq (tmL 0) (tmL j)) ∈ flatC (Jvm.Cond.and given_1 narrow_1) := by
  intro j hj hij
  match j, hj, hij with
  | 0, _, h => exact absurd h (by omega)
  | 1, _, _ => exact gl_at 263 rfl
  | 2, _, _ => exact gl_at 269 rfl
  | 3, _, _ => exact gl_at 280 rfl
  | 4, _, _ => exact gl_at 291 rfl
  | 5, _, _ => exact gl_at 306 rfl
  | 6, _, _ => exact gl_at 451 rfl
  | 7, _, _ => exact gl_at 468 rfl
  | 8, _, _ => exact gl_at 487 rfl
  | 9, _, _ => exact gl_at 508 rfl
  | 10, _, _ => exact gl_at 533 rfl
  | 11, _, _ => exact gl_at 566 rfl
  | 12, _, _ => exact gl_at 612 rfl
  | 13, _, _ => exact gl_at 647 rfl
  | 14, _, _ => exact gl_at 684 rfl
  | 15, _, _ => exact gl_at 798 rfl
  | 16, _, _ => exact gl_at 825 rfl
  | 17, _, _ => exact gl_at 853 rfl
  | j + 18, hj, _ => exact absurd hj (by unfold lwN; omega)
set_option maxRecDepth 100000 in
theorem gl_ne1 : ∀ j, j < lwN → 1 < j → Cond.not (Cond.eq (tmL 1) (tmL j)) ∈ flatC (Jvm.Cond.and given_1 narrow_1) := by
  intro j hj hij
  match j, hj, hij with
  | 0, _, h => exact absurd h (by omega)
  | 1, _, h => exact absurd h (by omega)
  | 2, _, _ => exact gl_at 270 rfl
  | 3, _, _ => exact gl_at 281 rfl
  | 4, _, _ => exact gl_at 292 rfl
  | 5, _, _ => exact gl_at 307 rfl
  | 6, _, _ => exact gl_at 452 rfl
  | 7, _, _ => exact gl_at 469 rfl
  | 8, _, _ => exact gl_at 488 rfl
  | 9, _, _ => exact gl_at 509 rfl
  | 10, _, _ => exact gl_at 534 rfl
  | 11, _, _ => exact gl_at 567 rfl
  | 12, _, _ => exact gl_at 613 rfl
  | 13, _, _ => exact gl_at 648 rfl
  | 14, _, _ => exact gl_at 685 rfl
  | 15, _, _ => exact gl_at 799 rfl
  | 16, _, _ => exact gl_at 826 rfl
  | 17, _, _ => exact gl_at 854 rfl
  | j + 18, hj, _ => exact absurd hj (by unfold lwN; omega)
set_option maxRecDepth 100000 in
theorem gl_ne2 : ∀ j, j < lwN → 2 < j → Cond.not (Cond.eq (tmL 2) (tmL j)) ∈ flatC (Jvm.Cond.and given_1 narrow_1) := by
  intro j hj hij
  match j, hj, hij with
  | 0, _, h => exact absurd h (by omega)
  | 1, _, h => exact absurd h (by omega)
  | 2, _, h => exact absurd h (by omega)
  | 3, _, _ => exact gl_at 282 rfl
  | 4, _, _ => exact gl_at 293 rfl
  | 5, _, _ => exact gl_at 308 rfl
  | 6, _, _ => exact gl_at 453 rfl
  | 7, _, _ => exact gl_at 470 rfl
  | 8, _, _ => exact gl_at 489 rfl
  | 9, _, _ => exact gl_at 510 rfl
  | 10, _, _ => exact gl_at 535 rfl
  | 11, _, _ => exact gl_at 568 rfl
  | 12, _, _ => exact gl_at 614 rfl
  | 13, _, _ => exact gl_at 649 rfl
  | 14, _, _ => exact gl_at 686 rfl
  | 15, _, _ => exact gl_at 800 rfl
  | 16, _, _ => exact gl_at 827 rfl
  | 17, _, _ => exact gl_at 855 rfl
  | j + 18, hj, _ => exact absurd hj (by unfold lwN; omega)
set_option maxRecDepth 100000 in
theorem gl_ne3 : ∀ j, j < lwN → 3 < j → Cond.not (Cond.eq (tmL 3) (tmL j)) ∈ flatC (Jvm.Cond.and given_1 narrow_1) := by
  intro j hj hij
  match j, hj, hij with
  | 0, _, h => exact absurd h (by omega)
  | 1, _, h => exact absurd h (by omega)
  | 2, _, h => exact absurd h (by omega)
  | 3, _, h => exact absurd h (by omega)
  | 4, _, _ => exact gl_at 294 rfl
  | 5, _, _ => exact gl_at 309 rfl
  | 6, _, _ => exact gl_at 454 rfl
  | 7, _, _ => exact gl_at 471 rfl
  | 8, _, _ => exact gl_at 490 rfl
  | 9, _, _ => exact gl_at 511 rfl
  | 10, _, _ => exact gl_at 536 rfl
  | 11, _, _ => exact gl_at 569 rfl
  | 12, _, _ => exact gl_at 615 rfl
  | 13, _, _ => exact gl_at 650 rfl
  | 14, _, _ => exact gl_at 687 rfl
  | 15, _, _ => exact gl_at 801 rfl
  | 16, _, _ => exact gl_at 828 rfl
  | 17, _, _ => exact gl_at 856 rfl
  | j + 18, hj, _ => exact absurd hj (by unfold lwN; omega)
set_option maxRecDepth 100000 in
theorem gl_ne4 : ∀ j, j < lwN → 4 < j → Cond.not (Cond.eq (tmL 4) (tmL j)) ∈ flatC (Jvm.Cond.and given_1 narrow_1) := by
  intro j hj hij
  match j, hj, hij with
  | 0, _, h => exact absurd h (by omega)
  | 1, _, h => exact absurd h (by omega)
  | 2, _, h => exact absurd h (by omega)
  | 3, _, h => exact absurd h (by omega)
  | 4, _, h => exact absurd h (by omega)
  | 5, _, _ => exact gl_at 310 rfl
  | 6, _, _ => exact gl_at 455 rfl
  | 7, _, _ => exact gl_at 472 rfl
  | 8, _, _ => exact gl_at 491 rfl
  | 9, _, _ => exact gl_at 512 rfl
  | 10, _, _ => exact gl_at 537 rfl
  | 11, _, _ => exact gl_at 570 rfl
  | 12, _, _ => exact gl_at 616 rfl
  | 13, _, _ => exact gl_at 651 rfl
  | 14, _, _ => exact gl_at 688 rfl
  | 15, _, _ => exact gl_at 802 rfl
  | 16, _, _ => exact gl_at 829 rfl
  | 17, _, _ => exact gl_at 857 rfl
  | j + 18, hj, _ => exact absurd hj (by unfold lwN; omega)
set_option maxRecDepth 100000 in
theorem gl_ne5 : ∀ j, j < lwN → 5 < j → Cond.not (Cond.eq (tmL 5) (tmL j)) ∈ flatC (Jvm.Cond.and given_1 narrow_1) := by
  intro j hj hij
  match j, hj, hij with
  | 0, _, h => exact absurd h (by omega)
  | 1, _, h => exact absurd h (by omega)
  | 2, _, h => exact absurd h (by omega)
  | 3, _, h => exact absurd h (by omega)
  | 4, _, h => exact absurd h (by omega)
  | 5, _, h => exact absurd h (by omega)
  | 6, _, _ => exact gl_at 456 rfl
  | 7, _, _ => exact gl_at 473 rfl
  | 8, _, _ => exact gl_at 492 rfl
  | 9, _, _ => exact gl_at 513 rfl
  | 10, _, _ => exact gl_at 538 rfl
  | 11, _, _ => exact gl_at 571 rfl
  | 12, _, _ => exact gl_at 617 rfl
  | 13, _, _ => exact gl_at 652 rfl
  | 14, _, _ => exact gl_at 689 rfl
  | 15, _, _ => exact gl_at 803 rfl
  | 16, _, _ => exact gl_at 830 rfl
  | 17, _, _ => exact gl_at 858 rfl
  | j + 18, hj, _ => exact absurd hj (by unfold lwN; omega)
set_option maxRecDepth 100000 in
theorem gl_ne6 : ∀ j, j < lwN → 6 < j → Cond.not (Cond.eq (tmL 6) (tmL j)) ∈ flatC (Jvm.Cond.and given_1 narrow_1) := by
  intro j hj hij
  match j, hj, hij with
  | 0, _, h => exact absurd h (by omega)
  | 1, _, h => exact absurd h (by omega)
  | 2, _, h => exact absurd h (by omega)
  | 3, _, h => exact absurd h (by omega)
  | 4, _, h => exact absurd h (by omega)
  | 5, _, h => exact absurd h (by omega)
  | 6, _, h => exact absurd h (by omega)
  | 7, _, _ => exact gl_at 475 rfl
  | 8, _, _ => exact gl_at 494 rfl
  | 9, _, _ => exact gl_at 515 rfl
  | 10, _, _ => exact gl_at 540 rfl
  | 11, _, _ => exact gl_at 573 rfl
  | 12, _, _ => exact gl_at 619 rfl
  | 13, _, _ => exact gl_at 654 rfl
  | 14, _, _ => exact gl_at 691 rfl
  | 15, _, _ => exact gl_at 805 rfl
  | 16, _, _ => exact gl_at 832 rfl
  | 17, _, _ => exact gl_at 860 rfl
  | j + 18, hj, _ => exact absurd hj (by unfold lwN; omega)
set_option maxRecDepth 100000 in
theorem gl_ne7 : ∀ j, j < lwN → 7 < j → Cond.not (Cond.eq (tmL 7) (tmL j)) ∈ flatC (Jvm.Cond.and given_1 narrow_1) := by
  intro j hj hij
  match j, hj, hij with
  | 0, _, h => exact absurd h (by omega)
  | 1, _, h => exact absurd h (by omega)
  | 2, _, h => exact absurd h (by omega)
  | 3, _, h => exact absurd h (by omega)
  | 4, _, h => exact absurd h (by omega)
  | 5, _, h => exact absurd h (by omega)
  | 6, _, h => exact absurd h (by omega)
  | 7, _, h => exact absurd h (by omega)
  | 8, _, _ => exact gl_at 495 rfl
  | 9, _, _ => exact gl_at 516 rfl
  | 10, _, _ => exact gl_at 541 rfl
  | 11, _, _ => exact gl_at 574 rfl
  | 12, _, _ => exact gl_at 620 rfl
  | 13, _, _ => exact gl_at 655 rfl
  | 14, _, _ => exact gl_at 692 rfl
  | 15, _, _ => exact gl_at 806 rfl
  | 16, _, _ => exact gl_at 833 rfl
  | 17, _, _ => exact gl_at 861 rfl
  | j + 18, hj, _ => exact absurd hj (by unfold lwN; omega)
set_option maxRecDepth 100000 in
theorem gl_ne8 : ∀ j, j < lwN → 8 < j → Cond.not (Cond.eq (tmL 8) (tmL j)) ∈ flatC (Jvm.Cond.and given_1 narrow_1) := by
  intro j hj hij
  match j, hj, hij with
  | 0, _, h => exact absurd h (by omega)
  | 1, _, h => exact absurd h (by omega)
  | 2, _, h => exact absurd h (by omega)
  | 3, _, h => exact absurd h (by omega)
  | 4, _, h => exact absurd h (by omega)
  | 5, _, h => exact absurd h (by omega)
  | 6, _, h => exact absurd h (by omega)
  | 7, _, h => exact absurd h (by omega)
  | 8, _, h => exact absurd h (by omega)
  | 9, _, _ => exact gl_at 517 rfl
  | 10, _, _ => exact gl_at 542 rfl
  | 11, _, _ => exact gl_at 575 rfl
  | 12, _, _ => exact gl_at 621 rfl
  | 13, _, _ => exact gl_at 656 rfl
  | 14, _, _ => exact gl_at 693 rfl
  | 15, _, _ => exact gl_at 807 rfl
  | 16, _, _ => exact gl_at 834 rfl
  | 17, _, _ => exact gl_at 862 rfl
  | j + 18, hj, _ => exact absurd hj (by unfold lwN; omega)
set_option maxRecDepth 100000 in
theorem gl_ne9 : ∀ j, j < lwN → 9 < j → Cond.not (Cond.eq (tmL 9) (tmL j)) ∈ flatC (Jvm.Cond.and given_1 narrow_1) := by
  intro j hj hij
  match j, hj, hij with
  | 0, _, h => exact absurd h (by omega)
  | 1, _, h => exact absurd h (by omega)
  | 2, _, h => exact absurd h (by omega)
  | 3, _, h => exact absurd h (by omega)
  | 4, _, h => exact absurd h (by omega)
  | 5, _, h => exact absurd h (by omega)
  | 6, _, h => exact absurd h (by omega)
  | 7, _, h => exact absurd h (by omega)
  | 8, _, h => exact absurd h (by omega)
  | 9, _, h => exact absurd h (by omega)
  | 10, _, _ => exact gl_at 543 rfl
  | 11, _, _ => exact gl_at 576 rfl
  | 12, _, _ => exact gl_at 622 rfl
  | 13, _, _ => exact gl_at 657 rfl
  | 14, _, _ => exact gl_at 694 rfl
  | 15, _, _ => exact gl_at 808 rfl
  | 16, _, _ => exact gl_at 835 rfl
  | 17, _, _ => exact gl_at 863 rfl
  | j + 18, hj, _ => exact absurd hj (by unfold lwN; omega)
set_option maxRecDepth 100000 in
theorem gl_ne10 : ∀ j, j < lwN → 10 < j → Cond.not (Cond.eq (tmL 10) (tmL j)) ∈ flatC (Jvm.Cond.and given_1 narrow_1) := by
  intro j hj hij
  match j, hj, hij with
  | 0, _, h => exact absurd h (by omega)
  | 1, _, h => exact absurd h (by omega)
  | 2, _, h => exact absurd h (by omega)
  | 3, _, h => exact absurd h (by omega)
  | 4, _, h => exact absurd h (by omega)
  | 5, _, h => exact absurd h (by omega)
  | 6, _, h => exact absurd h (by omega)
  | 7, _, h => exact absurd h (by omega)
  | 8, _, h => exact absurd h (by omega)
  | 9, _, h => exact absurd h (by omega)
  | 10, _, h => exact absurd h (by omega)
  | 11, _, _ => exact gl_at 577 rfl
  | 12, _, _ => exact gl_at 623 rfl
  | 13, _, _ => exact gl_at 658 rfl
  | 14, _, _ => exact gl_at 695 rfl
  | 15, _, _ => exact gl_at 809 rfl
  | 16, _, _ => exact gl_at 836 rfl
  | 17, _, _ => exact gl_at 864 rfl
  | j + 18, hj, _ => exact absurd hj (by unfold lwN; omega)
set_option maxRecDepth 100000 in
theorem gl_ne11 : ∀ j, j < lwN → 11 < j → Cond.not (Cond.eq (tmL 11) (tmL j)) ∈ flatC (Jvm.Cond.and given_1 narrow_1) := by
  intro j hj hij
  match j, hj, hij with
  | 0, _, h => exact absurd h (by omega)
  | 1, _, h => exact absurd h (by omega)
  | 2, _, h => exact absurd h (by omega)
  | 3, _, h => exact absurd h (by omega)
  | 4, _, h => exact absurd h (by omega)
  | 5, _, h => exact absurd h (by omega)
  | 6, _, h => exact absurd h (by omega)
  | 7, _, h => exact absurd h (by omega)
  | 8, _, h => exact absurd h (by omega)
  | 9, _, h => exact absurd h (by omega)
  | 10, _, h => exact absurd h (by omega)
  | 11, _, h => exact absurd h (by omega)
  | 12, _, _ => exact gl_at 624 rfl
  | 13, _, _ => exact gl_at 659 rfl
  | 14, _, _ => exact gl_at 696 rfl
  | 15, _, _ => exact gl_at 810 rfl
  | 16, _, _ => exact gl_at 837 rfl
  | 17, _, _ => exact gl_at 865 rfl
  | j + 18, hj, _ => exact absurd hj (by unfold lwN; omega)
set_option maxRecDepth 100000 in
theorem gl_ne12 : ∀ j, j < lwN → 12 < j → Cond.not (Cond.eq (tmL 12) (tmL j)) ∈ flatC (Jvm.Cond.and given_1 narrow_1) := by
  intro j hj hij
  match j, hj, hij with
  | 0, _, h => exact absurd h (by omega)
  | 1, _, h => exact absurd h (by omega)
  | 2, _, h => exact absurd h (by omega)
  | 3, _, h => exact absurd h (by omega)
  | 4, _, h => exact absurd h (by omega)
  | 5, _, h => exact absurd h (by omega)
  | 6, _, h => exact absurd h (by omega)
  | 7, _, h => exact absurd h (by omega)
  | 8, _, h => exact absurd h (by omega)
  | 9, _, h => exact absurd h (by omega)
  | 10, _, h => exact absurd h (by omega)
  | 11, _, h => exact absurd h (by omega)
  | 12, _, h => exact absurd h (by omega)
  | 13, _, _ => exact gl_at 660 rfl
  | 14, _, _ => exact gl_at 697 rfl
  | 15, _, _ => exact gl_at 811 rfl
  | 16, _, _ => exact gl_at 838 rfl
  | 17, _, _ => exact gl_at 866 rfl
  | j + 18, hj, _ => exact absurd hj (by unfold lwN; omega)
set_option maxRecDepth 100000 in
theorem gl_ne13 : ∀ j, j < lwN → 13 < j → Cond.not (Cond.eq (tmL 13) (tmL j)) ∈ flatC (Jvm.Cond.and given_1 narrow_1) := by
  intro j hj hij
  match j, hj, hij with
  | 0, _, h => exact absurd h (by omega)
  | 1, _, h => exact absurd h (by omega)
  | 2, _, h => exact absurd h (by omega)
  | 3, _, h => exact absurd h (by omega)
  | 4, _, h => exact absurd h (by omega)
  | 5, _, h => exact absurd h (by omega)
  | 6, _, h => exact absurd h (by omega)
  | 7, _, h => exact absurd h (by omega)
  | 8, _, h => exact absurd h (by omega)
  | 9, _, h => exact absurd h (by omega)
  | 10, _, h => exact absurd h (by omega)
  | 11, _, h => exact absurd h (by omega)
  | 12, _, h => exact absurd h (by omega)
  | 13, _, h => exact absurd h (by omega)
  | 14, _, _ => exact gl_at 698 rfl
  | 15, _, _ => exact gl_at 812 rfl
  | 16, _, _ => exact gl_at 839 rfl
  | 17, _, _ => exact gl_at 867 rfl
  | j + 18, hj, _ => exact absurd hj (by unfold lwN; omega)
set_option maxRecDepth 100000 in
theorem gl_ne14 : ∀ j, j < lwN → 14 < j → Cond.not (Cond.eq (tmL 14) (tmL j)) ∈ flatC (Jvm.Cond.and given_1 narrow_1) := by
  intro j hj hij
  match j, hj, hij with
  | 0, _, h => exact absurd h (by omega)
  | 1, _, h => exact absurd h (by omega)
  | 2, _, h => exact absurd h (by omega)
  | 3, _, h => exact absurd h (by omega)
  | 4, _, h => exact absurd h (by omega)
  | 5, _, h => exact absurd h (by omega)
  | 6, _, h => exact absurd h (by omega)
  | 7, _, h => exact absurd h (by omega)
  | 8, _, h => exact absurd h (by omega)
  | 9, _, h => exact absurd h (by omega)
  | 10, _, h => exact absurd h (by omega)
  | 11, _, h => exact absurd h (by omega)
  | 12, _, h => exact absurd h (by omega)
  | 13, _, h => exact absurd h (by omega)
  | 14, _, h => exact absurd h (by omega)
  | 15, _, _ => exact gl_at 813 rfl
  | 16, _, _ => exact gl_at 840 rfl
  | 17, _, _ => exact gl_at 868 rfl
  | j + 18, hj, _ => exact absurd hj (by unfold lwN; omega)
set_option maxRecDepth 100000 in
theorem gl_ne15 : ∀ j, j < lwN → 15 < j → Cond.not (Cond.eq (tmL 15) (tmL j)) ∈ flatC (Jvm.Cond.and given_1 narrow_1) := by
  intro j hj hij
  match j, hj, hij with
  | 0, _, h => exact absurd h (by omega)
  | 1, _, h => exact absurd h (by omega)
  | 2, _, h => exact absurd h (by omega)
  | 3, _, h => exact absurd h (by omega)
  | 4, _, h => exact absurd h (by omega)
  | 5, _, h => exact absurd h (by omega)
  | 6, _, h => exact absurd h (by omega)
  | 7, _, h => exact absurd h (by omega)
  | 8, _, h => exact absurd h (by omega)
  | 9, _, h => exact absurd h (by omega)
  | 10, _, h => exact absurd h (by omega)
  | 11, _, h => exact absurd h (by omega)
  | 12, _, h => exact absurd h (by omega)
  | 13, _, h => exact absurd h (by omega)
  | 14, _, h => exact absurd h (by omega)
  | 15, _, h => exact absurd h (by omega)
  | 16, _, _ => exact gl_at 841 rfl
  | 17, _, _ => exact gl_at 869 rfl
  | j + 18, hj, _ => exact absurd hj (by unfold lwN; omega)
set_option maxRecDepth 100000 in
theorem gl_ne16 : ∀ j, j < lwN → 16 < j → Cond.not (Cond.eq (tmL 16) (tmL j)) ∈ flatC (Jvm.Cond.and given_1 narrow_1) := by
  intro j hj hij
  match j, hj, hij with
  | 0, _, h => exact absurd h (by omega)
  | 1, _, h => exact absurd h (by omega)
  | 2, _, h => exact absurd h (by omega)
  | 3, _, h => exact absurd h (by omega)
  | 4, _, h => exact absurd h (by omega)
  | 5, _, h => exact absurd h (by omega)
  | 6, _, h => exact absurd h (by omega)
  | 7, _, h => exact absurd h (by omega)
  | 8, _, h => exact absurd h (by omega)
  | 9, _, h => exact absurd h (by omega)
  | 10, _, h => exact absurd h (by omega)
  | 11, _, h => exact absurd h (by omega)
  | 12, _, h => exact absurd h (by omega)
  | 13, _, h => exact absurd h (by omega)
  | 14, _, h => exact absurd h (by omega)
  | 15, _, h => exact absurd h (by omega)
  | 16, _, h => exact absurd h (by omega)
  | 17, _, _ => exact gl_at 870 rfl
  | j + 18, hj, _ => exact absurd hj (by unfold lwN; omega)
set_option maxRecDepth 100000 in
theorem gl_ne17 : ∀ j, j < lwN → 17 < j → Cond.not (Cond.eq (tmL 17) (tmL j)) ∈ flatC (Jvm.Cond.and given_1 narrow_1) := by
  intro j hj hij
  match j, hj, hij with
  | 0, _, h => exact absurd h (by omega)
  | 1, _, h => exact absurd h (by omega)
  | 2, _, h => exact absurd h (by omega)
  | 3, _, h => exact absurd h (by omega)
  | 4, _, h => exact absurd h (by omega)
  | 5, _, h => exact absurd h (by omega)
  | 6, _, h => exact absurd h (by omega)
  | 7, _, h => exact absurd h (by omega)
  | 8, _, h => exact absurd h (by omega)
  | 9, _, h => exact absurd h (by omega)
  | 10, _, h => exact absurd h (by omega)
  | 11, _, h => exact absurd h (by omega)
  | 12, _, h => exact absurd h (by omega)
  | 13, _, h => exact absurd h (by omega)
  | 14, _, h => exact absurd h (by omega)
  | 15, _, h => exact absurd h (by omega)
  | 16, _, h => exact absurd h (by omega)
  | 17, _, h => exact absurd h (by omega)
  | j + 18, hj, _ => exact absurd hj (by unfold lwN; omega)
set_option maxRecDepth 100000 in
theorem gl_ne : ∀ i, i < lwN → ∀ j, j < lwN → i < j → Cond.not (Cond.eq (tmL i) (tmL j)) ∈ flatC (Jvm.Cond.and given_1 narrow_1) := by
  intro i hi
  match i, hi with
  | 0, _ => exact gl_ne0
  | 1, _ => exact gl_ne1
  | 2, _ => exact gl_ne2
  | 3, _ => exact gl_ne3
  | 4, _ => exact gl_ne4
  | 5, _ => exact gl_ne5
  | 6, _ => exact gl_ne6
  | 7, _ => exact gl_ne7
  | 8, _ => exact gl_ne8
  | 9, _ => exact gl_ne9
  | 10, _ => exact gl_ne10
  | 11, _ => exact gl_ne11
  | 12, _ => exact gl_ne12
  | 13, _ => exact gl_ne13
  | 14, _ => exact gl_ne14
  | 15, _ => exact gl_ne15
  | 16, _ => exact gl_ne16
  | 17, _ => exact gl_ne17
  | i + 18, hi => exact absurd hi (by unfold lwN; omega)
set_option maxRecDepth 100000 in
theorem gdt_e : ∀ j, j < 100 → Cond.eq (.elem (.static "java/lang/Integer" "DigitTens" "[B") (.int (Int32.ofNat j))) (.int (digT.getD j 0)) ∈ flatC (Jvm.Cond.and given_1 narrow_1) := by
  intro j hj
  match j, hj with
  | 0, _ => exact gl_at 115 rfl
  | 1, _ => exact gl_at 116 rfl
  | 2, _ => exact gl_at 117 rfl
  | 3, _ => exact gl_at 118 rfl
  | 4, _ => exact gl_at 119 rfl
  | 5, _ => exact gl_at 120 rfl
  | 6, _ => exact gl_at 121 rfl
  | 7, _ => exact gl_at 122 rfl
  | 8, _ => exact gl_at 123 rfl
  | 9, _ => exact gl_at 124 rfl
  | 10, _ => exact gl_at 125 rfl
  | 11, _ => exact gl_at 126 rfl
  | 12, _ => exact gl_at 127 rfl
  | 13, _ => exact gl_at 128 rfl
  | 14, _ => exact gl_at 129 rfl
  | 15, _ => exact gl_at 130 rfl
  | 16, _ => exact gl_at 131 rfl
  | 17, _ => exact gl_at 132 rfl
  | 18, _ => exact gl_at 133 rfl
  | 19, _ => exact gl_at 134 rfl
  | 20, _ => exact gl_at 135 rfl
  | 21, _ => exact gl_at 136 rfl
  | 22, _ => exact gl_at 137 rfl
  | 23, _ => exact gl_at 138 rfl
  | 24, _ => exact gl_at 139 rfl
  | 25, _ => exact gl_at 140 rfl
  | 26, _ => exact gl_at 141 rfl
  | 27, _ => exact gl_at 142 rfl
  | 28, _ => exact gl_at 143 rfl
  | 29, _ => exact gl_at 144 rfl
  | 30, _ => exact gl_at 145 rfl
  | 31, _ => exact gl_at 146 rfl
  | 32, _ => exact gl_at 147 rfl
  | 33, _ => exact gl_at 148 rfl
  | 34, _ => exact gl_at 149 rfl
  | 35, _ => exact gl_at 150 rfl
  | 36, _ => exact gl_at 151 rfl
  | 37, _ => exact gl_at 152 rfl
  | 38, _ => exact gl_at 153 rfl
  | 39, _ => exact gl_at 154 rfl
  | 40, _ => exact gl_at 155 rfl
  | 41, _ => exact gl_at 156 rfl
  | 42, _ => exact gl_at 157 rfl
  | 43, _ => exact gl_at 158 rfl
  | 44, _ => exact gl_at 159 rfl
  | 45, _ => exact gl_at 160 rfl
  | 46, _ => exact gl_at 161 rfl
  | 47, _ => exact gl_at 162 rfl
  | 48, _ => exact gl_at 163 rfl
  | 49, _ => exact gl_at 164 rfl
  | 50, _ => exact gl_at 165 rfl
  | 51, _ => exact gl_at 166 rfl
  | 52, _ => exact gl_at 167 rfl
  | 53, _ => exact gl_at 168 rfl
  | 54, _ => exact gl_at 169 rfl
  | 55, _ => exact gl_at 170 rfl
  | 56, _ => exact gl_at 171 rfl
  | 57, _ => exact gl_at 172 rfl
  | 58, _ => exact gl_at 173 rfl
  | 59, _ => exact gl_at 174 rfl
  | 60, _ => exact gl_at 175 rfl
  | 61, _ => exact gl_at 176 rfl
  | 62, _ => exact gl_at 177 rfl
  | 63, _ => exact gl_at 178 rfl
  | 64, _ => exact gl_at 179 rfl
  | 65, _ => exact gl_at 180 rfl
  | 66, _ => exact gl_at 181 rfl
  | 67, _ => exact gl_at 182 rfl
  | 68, _ => exact gl_at 183 rfl
  | 69, _ => exact gl_at 184 rfl
  | 70, _ => exact gl_at 185 rfl
  | 71, _ => exact gl_at 186 rfl
  | 72, _ => exact gl_at 187 rfl
  | 73, _ => exact gl_at 188 rfl
  | 74, _ => exact gl_at 189 rfl
  | 75, _ => exact gl_at 190 rfl
  | 76, _ => exact gl_at 191 rfl
  | 77, _ => exact gl_at 192 rfl
  | 78, _ => exact gl_at 193 rfl
  | 79, _ => exact gl_at 194 rfl
  | 80, _ => exact gl_at 195 rfl
  | 81, _ => exact gl_at 196 rfl
  | 82, _ => exact gl_at 197 rfl
  | 83, _ => exact gl_at 198 rfl
  | 84, _ => exact gl_at 199 rfl
  | 85, _ => exact gl_at 200 rfl
  | 86, _ => exact gl_at 201 rfl
  | 87, _ => exact gl_at 202 rfl
  | 88, _ => exact gl_at 203 rfl
  | 89, _ => exact gl_at 204 rfl
  | 90, _ => exact gl_at 205 rfl
  | 91, _ => exact gl_at 206 rfl
  | 92, _ => exact gl_at 207 rfl
  | 93, _ => exact gl_at 208 rfl
  | 94, _ => exact gl_at 209 rfl
  | 95, _ => exact gl_at 210 rfl
  | 96, _ => exact gl_at 211 rfl
  | 97, _ => exact gl_at 212 rfl
  | 98, _ => exact gl_at 213 rfl
  | 99, _ => exact gl_at 214 rfl
  | j + 100, hj => exact absurd hj (by omega)
set_option maxRecDepth 100000 in
theorem gdt_a : Cond.arrayOf (.static "java/lang/Integer" "DigitTens" "[B") .byte ∈ flatC (Jvm.Cond.and given_1 narrow_1) := gl_at 113 rfl
set_option maxRecDepth 100000 in
theorem gdt_l : Cond.eq (.length (.static "java/lang/Integer" "DigitTens" "[B")) (.int 100) ∈ flatC (Jvm.Cond.and given_1 narrow_1) := gl_at 114 rfl
set_option maxRecDepth 100000 in
theorem gdo_e : ∀ j, j < 100 → Cond.eq (.elem (.static "java/lang/Integer" "DigitOnes" "[B") (.int (Int32.ofNat j))) (.int (digO.getD j 0)) ∈ flatC (Jvm.Cond.and given_1 narrow_1) := by
  intro j hj
  match j, hj with
  | 0, _ => exact gl_at 12 rfl
  | 1, _ => exact gl_at 13 rfl
  | 2, _ => exact gl_at 14 rfl
  | 3, _ => exact gl_at 15 rfl
  | 4, _ => exact gl_at 16 rfl
  | 5, _ => exact gl_at 17 rfl
  | 6, _ => exact gl_at 18 rfl
  | 7, _ => exact gl_at 19 rfl
  | 8, _ => exact gl_at 20 rfl
  | 9, _ => exact gl_at 21 rfl
  | 10, _ => exact gl_at 22 rfl
  | 11, _ => exact gl_at 23 rfl
  | 12, _ => exact gl_at 24 rfl
  | 13, _ => exact gl_at 25 rfl
  | 14, _ => exact gl_at 26 rfl
  | 15, _ => exact gl_at 27 rfl
  | 16, _ => exact gl_at 28 rfl
  | 17, _ => exact gl_at 29 rfl
  | 18, _ => exact gl_at 30 rfl
  | 19, _ => exact gl_at 31 rfl
  | 20, _ => exact gl_at 32 rfl
  | 21, _ => exact gl_at 33 rfl
  | 22, _ => exact gl_at 34 rfl
  | 23, _ => exact gl_at 35 rfl
  | 24, _ => exact gl_at 36 rfl
  | 25, _ => exact gl_at 37 rfl
  | 26, _ => exact gl_at 38 rfl
  | 27, _ => exact gl_at 39 rfl
  | 28, _ => exact gl_at 40 rfl
  | 29, _ => exact gl_at 41 rfl
  | 30, _ => exact gl_at 42 rfl
  | 31, _ => exact gl_at 43 rfl
  | 32, _ => exact gl_at 44 rfl
  | 33, _ => exact gl_at 45 rfl
  | 34, _ => exact gl_at 46 rfl
  | 35, _ => exact gl_at 47 rfl
  | 36, _ => exact gl_at 48 rfl
  | 37, _ => exact gl_at 49 rfl
  | 38, _ => exact gl_at 50 rfl
  | 39, _ => exact gl_at 51 rfl
  | 40, _ => exact gl_at 52 rfl
  | 41, _ => exact gl_at 53 rfl
  | 42, _ => exact gl_at 54 rfl
  | 43, _ => exact gl_at 55 rfl
  | 44, _ => exact gl_at 56 rfl
  | 45, _ => exact gl_at 57 rfl
  | 46, _ => exact gl_at 58 rfl
  | 47, _ => exact gl_at 59 rfl
  | 48, _ => exact gl_at 60 rfl
  | 49, _ => exact gl_at 61 rfl
  | 50, _ => exact gl_at 62 rfl
  | 51, _ => exact gl_at 63 rfl
  | 52, _ => exact gl_at 64 rfl
  | 53, _ => exact gl_at 65 rfl
  | 54, _ => exact gl_at 66 rfl
  | 55, _ => exact gl_at 67 rfl
  | 56, _ => exact gl_at 68 rfl
  | 57, _ => exact gl_at 69 rfl
  | 58, _ => exact gl_at 70 rfl
  | 59, _ => exact gl_at 71 rfl
  | 60, _ => exact gl_at 72 rfl
  | 61, _ => exact gl_at 73 rfl
  | 62, _ => exact gl_at 74 rfl
  | 63, _ => exact gl_at 75 rfl
  | 64, _ => exact gl_at 76 rfl
  | 65, _ => exact gl_at 77 rfl
  | 66, _ => exact gl_at 78 rfl
  | 67, _ => exact gl_at 79 rfl
  | 68, _ => exact gl_at 80 rfl
  | 69, _ => exact gl_at 81 rfl
  | 70, _ => exact gl_at 82 rfl
  | 71, _ => exact gl_at 83 rfl
  | 72, _ => exact gl_at 84 rfl
  | 73, _ => exact gl_at 85 rfl
  | 74, _ => exact gl_at 86 rfl
  | 75, _ => exact gl_at 87 rfl
  | 76, _ => exact gl_at 88 rfl
  | 77, _ => exact gl_at 89 rfl
  | 78, _ => exact gl_at 90 rfl
  | 79, _ => exact gl_at 91 rfl
  | 80, _ => exact gl_at 92 rfl
  | 81, _ => exact gl_at 93 rfl
  | 82, _ => exact gl_at 94 rfl
  | 83, _ => exact gl_at 95 rfl
  | 84, _ => exact gl_at 96 rfl
  | 85, _ => exact gl_at 97 rfl
  | 86, _ => exact gl_at 98 rfl
  | 87, _ => exact gl_at 99 rfl
  | 88, _ => exact gl_at 100 rfl
  | 89, _ => exact gl_at 101 rfl
  | 90, _ => exact gl_at 102 rfl
  | 91, _ => exact gl_at 103 rfl
  | 92, _ => exact gl_at 104 rfl
  | 93, _ => exact gl_at 105 rfl
  | 94, _ => exact gl_at 106 rfl
  | 95, _ => exact gl_at 107 rfl
  | 96, _ => exact gl_at 108 rfl
  | 97, _ => exact gl_at 109 rfl
  | 98, _ => exact gl_at 110 rfl
  | 99, _ => exact gl_at 111 rfl
  | j + 100, hj => exact absurd hj (by omega)
set_option maxRecDepth 100000 in
theorem gdo_a : Cond.arrayOf (.static "java/lang/Integer" "DigitOnes" "[B") .byte ∈ flatC (Jvm.Cond.and given_1 narrow_1) := gl_at 10 rfl
set_option maxRecDepth 100000 in
theorem gdo_l : Cond.eq (.length (.static "java/lang/Integer" "DigitOnes" "[B")) (.int 100) ∈ flatC (Jvm.Cond.and given_1 narrow_1) := gl_at 11 rfl
set_option maxRecDepth 100000 in
theorem gv_cs : Cond.eq (.static "java/lang/String" "COMPACT_STRINGS" "Z") (.int 1) ∈ flatC (Jvm.Cond.and given_1 narrow_1) := gl_at 4 rfl
set_option maxRecDepth 100000 in
theorem gv_fm : Cond.isRef (.static "jdk/internal/util/Preconditions" "SIOOBE_FORMATTER" "Ljava/util/function/BiFunction;") ∈ flatC (Jvm.Cond.and given_1 narrow_1) := gl_at 5 rfl
