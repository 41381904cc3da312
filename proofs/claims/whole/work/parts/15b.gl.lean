def GL : List Cond := [Jvm.Cond.count (1 : Nat),
 Jvm.Cond.isRef (Jvm.Term.arg (0 : Nat)),
 Jvm.Cond.arrayOf (Jvm.Term.arg (0 : Nat)) Jvm.ClassFile.FieldType.int,
 Jvm.Cond.le (Jvm.Term.length (Jvm.Term.arg (0 : Nat))) (Jvm.Term.int (3072 : Int32)),
 Jvm.Cond.eq (Jvm.Term.static "java/lang/String" "COMPACT_STRINGS" "Z") (Jvm.Term.int (1 : Int32)),
 Jvm.Cond.isRef (Jvm.Term.static "jdk/internal/util/Preconditions" "SIOOBE_FORMATTER" "Ljava/util/function/BiFunction;"),
 Jvm.Cond.eq (Jvm.Term.static "java/lang/StringUTF16" "$assertionsDisabled" "Z") (Jvm.Term.int (1 : Int32)),
 Jvm.Cond.eq (Jvm.Term.static "java/lang/StringUTF16" "HI_BYTE_SHIFT" "I") (Jvm.Term.int (0 : Int32)),
 Jvm.Cond.eq (Jvm.Term.static "java/lang/StringUTF16" "LO_BYTE_SHIFT" "I") (Jvm.Term.int (8 : Int32)),
 Jvm.Cond.isRef (Jvm.Term.static "Encores" "HEAP" "[I"),
 Jvm.Cond.arrayOf (Jvm.Term.static "Encores" "HEAP" "[I") Jvm.ClassFile.FieldType.int,
 Jvm.Cond.eq (Jvm.Term.length (Jvm.Term.static "Encores" "HEAP" "[I")) (Jvm.Term.int (7 : Int32)),
 Jvm.Cond.eq (Jvm.Term.elem (Jvm.Term.static "Encores" "HEAP" "[I") (Jvm.Term.int (0 : Int32))) (Jvm.Term.int (0 : Int32)),
 Jvm.Cond.eq (Jvm.Term.elem (Jvm.Term.static "Encores" "HEAP" "[I") (Jvm.Term.int (1 : Int32))) (Jvm.Term.int (1 : Int32)),
 Jvm.Cond.eq (Jvm.Term.elem (Jvm.Term.static "Encores" "HEAP" "[I") (Jvm.Term.int (2 : Int32))) (Jvm.Term.int (0 : Int32)),
 Jvm.Cond.eq (Jvm.Term.elem (Jvm.Term.static "Encores" "HEAP" "[I") (Jvm.Term.int (3 : Int32))) (Jvm.Term.int (1 : Int32)),
 Jvm.Cond.eq (Jvm.Term.elem (Jvm.Term.static "Encores" "HEAP" "[I") (Jvm.Term.int (4 : Int32))) (Jvm.Term.int (2 : Int32)),
 Jvm.Cond.eq (Jvm.Term.elem (Jvm.Term.static "Encores" "HEAP" "[I") (Jvm.Term.int (5 : Int32))) (Jvm.Term.int (3 : Int32)),
 Jvm.Cond.eq (Jvm.Term.elem (Jvm.Term.static "Encores" "HEAP" "[I") (Jvm.Term.int (6 : Int32))) (Jvm.Term.int (2 : Int32)),
 Jvm.Cond.exactly (Jvm.Term.string "Encores$Tape" (80 : Nat)) "java/lang/String",
 Jvm.Cond.eq (Jvm.Term.field (Jvm.Term.string "Encores$Tape" (80 : Nat)) "java/lang/String" "coder" "B") (Jvm.Term.int (0 : Int32)),
 Jvm.Cond.arrayOf (Jvm.Term.field (Jvm.Term.string "Encores$Tape" (80 : Nat)) "java/lang/String" "value" "[B") Jvm.ClassFile.FieldType.byte,
 Jvm.Cond.eq (Jvm.Term.length (Jvm.Term.field (Jvm.Term.string "Encores$Tape" (80 : Nat)) "java/lang/String" "value" "[B")) (Jvm.Term.int (123 : Int32)),
 Jvm.Cond.eq (Jvm.Term.elem (Jvm.Term.field (Jvm.Term.string "Encores$Tape" (80 : Nat)) "java/lang/String" "value" "[B") (Jvm.Term.int (0 : Int32))) (Jvm.Term.int (108 : Int32)),
 Jvm.Cond.eq (Jvm.Term.elem (Jvm.Term.field (Jvm.Term.string "Encores$Tape" (80 : Nat)) "java/lang/String" "value" "[B") (Jvm.Term.int (1 : Int32))) (Jvm.Term.int (111 : Int32)),
 Jvm.Cond.eq (Jvm.Term.elem (Jvm.Term.field (Jvm.Term.string "Encores$Tape" (80 : Nat)) "java/lang/String" "value" "[B") (Jvm.Term.int (2 : Int32))) (Jvm.Term.int (117 : Int32)),
 Jvm.Cond.eq (Jvm.Term.elem (Jvm.Term.field (Jvm.Term.string "Encores$Tape" (80 : Nat)) "java/lang/String" "value" "[B") (Jvm.Term.int (3 : Int32))) (Jvm.Term.int (100 : Int32)),
 Jvm.Cond.eq (Jvm.Term.elem (Jvm.Term.field (Jvm.Term.string "Encores$Tape" (80 : Nat)) "java/lang/String" "value" "[B") (Jvm.Term.int (4 : Int32))) (Jvm.Term.int (32 : Int32)),
 Jvm.Cond.eq (Jvm.Term.elem (Jvm.Term.field (Jvm.Term.string "Encores$Tape" (80 : Nat)) "java/lang/String" "value" "[B") (Jvm.Term.int (5 : Int32))) (Jvm.Term.int (99 : Int32)),
 Jvm.Cond.eq (Jvm.Term.elem (Jvm.Term.field (Jvm.Term.string "Encores$Tape" (80 : Nat)) "java/lang/String" "value" "[B") (Jvm.Term.int (6 : Int32))) (Jvm.Term.int (108 : Int32)),
 Jvm.Cond.eq (Jvm.Term.elem (Jvm.Term.field (Jvm.Term.string "Encores$Tape" (80 : Nat)) "java/lang/String" "value" "[B") (Jvm.Term.int (7 : Int32))) (Jvm.Term.int (97 : Int32)),
 Jvm.Cond.eq (Jvm.Term.elem (Jvm.Term.field (Jvm.Term.string "Encores$Tape" (80 : Nat)) "java/lang/String" "value" "[B") (Jvm.Term.int (8 : Int32))) (Jvm.Term.int (112 : Int32)),
 Jvm.Cond.eq (Jvm.Term.elem (Jvm.Term.field (Jvm.Term.string "Encores$Tape" (80 : Nat)) "java/lang/String" "value" "[B") (Jvm.Term.int (9 : Int32))) (Jvm.Term.int (32 : Int32)),
 Jvm.Cond.eq (Jvm.Term.elem (Jvm.Term.field (Jvm.Term.string "Encores$Tape" (80 : Nat)) "java/lang/String" "value" "[B") (Jvm.Term.int (10 : Int32))) (Jvm.Term.int (119 : Int32)),
 Jvm.Cond.eq (Jvm.Term.elem (Jvm.Term.field (Jvm.Term.string "Encores$Tape" (80 : Nat)) "java/lang/String" "value" "[B") (Jvm.Term.int (11 : Int32))) (Jvm.Term.int (101 : Int32)),
 Jvm.Cond.eq (Jvm.Term.elem (Jvm.Term.field (Jvm.Term.string "Encores$Tape" (80 : Nat)) "java/lang/String" "value" "[B") (Jvm.Term.int (12 : Int32))) (Jvm.Term.int (97 : Int32)),
 Jvm.Cond.eq (Jvm.Term.elem (Jvm.Term.field (Jvm.Term.string "Encores$Tape" (80 : Nat)) "java/lang/String" "value" "[B") (Jvm.Term.int (13 : Int32))) (Jvm.Term.int (114 : Int32)),
 Jvm.Cond.eq (Jvm.Term.elem (Jvm.Term.field (Jvm.Term.string "Encores$Tape" (80 : Nat)) "java/lang/String" "value" "[B") (Jvm.Term.int (14 : Int32))) (Jvm.Term.int (115 : Int32)),
 Jvm.Cond.eq (Jvm.Term.elem (Jvm.Term.field (Jvm.Term.string "Encores$Tape" (80 : Nat)) "java/lang/String" "value" "[B") (Jvm.Term.int (15 : Int32))) (Jvm.Term.int (32 : Int32)),
 Jvm.Cond.eq (Jvm.Term.elem (Jvm.Term.field (Jvm.Term.string "Encores$Tape" (80 : Nat)) "java/lang/String" "value" "[B") (Jvm.Term.int (16 : Int32))) (Jvm.Term.int (119 : Int32)),
 Jvm.Cond.eq (Jvm.Term.elem (Jvm.Term.field (Jvm.Term.string "Encores$Tape" (80 : Nat)) "java/lang/String" "value" "[B") (Jvm.Term.int (17 : Int32))) (Jvm.Term.int (104 : Int32)),
 Jvm.Cond.eq (Jvm.Term.elem (Jvm.Term.field (Jvm.Term.string "Encores$Tape" (80 : Nat)) "java/lang/String" "value" "[B") (Jvm.Term.int (18 : Int32))) (Jvm.Term.int (101 : Int32)),
 Jvm.Cond.eq (Jvm.Term.elem (Jvm.Term.field (Jvm.Term.string "Encores$Tape" (80 : Nat)) "java/lang/String" "value" "[B") (Jvm.Term.int (19 : Int32))) (Jvm.Term.int (110 : Int32)),
 Jvm.Cond.eq (Jvm.Term.elem (Jvm.Term.field (Jvm.Term.string "Encores$Tape" (80 : Nat)) "java/lang/String" "value" "[B") (Jvm.Term.int (20 : Int32))) (Jvm.Term.int (32 : Int32)),
 Jvm.Cond.eq (Jvm.Term.elem (Jvm.Term.field (Jvm.Term.string "Encores$Tape" (80 : Nat)) "java/lang/String" "value" "[B") (Jvm.Term.int (21 : Int32))) (Jvm.Term.int (111 : Int32)),
 Jvm.Cond.eq (Jvm.Term.elem (Jvm.Term.field (Jvm.Term.string "Encores$Tape" (80 : Nat)) "java/lang/String" "value" "[B") (Jvm.Term.int (22 : Int32))) (Jvm.Term.int (114 : Int32)),
 Jvm.Cond.eq (Jvm.Term.elem (Jvm.Term.field (Jvm.Term.string "Encores$Tape" (80 : Nat)) "java/lang/String" "value" "[B") (Jvm.Term.int (23 : Int32))) (Jvm.Term.int (32 : Int32)),
 Jvm.Cond.eq (Jvm.Term.elem (Jvm.Term.field (Jvm.Term.string "Encores$Tape" (80 : Nat)) "java/lang/String" "value" "[B") (Jvm.Term.int (24 : Int32))) (Jvm.Term.int (97 : Int32)),
 Jvm.Cond.eq (Jvm.Term.elem (Jvm.Term.field (Jvm.Term.string "Encores$Tape" (80 : Nat)) "java/lang/String" "value" "[B") (Jvm.Term.int (25 : Int32))) (Jvm.Term.int (110 : Int32)),
 Jvm.Cond.eq (Jvm.Term.elem (Jvm.Term.field (Jvm.Term.string "Encores$Tape" (80 : Nat)) "java/lang/String" "value" "[B") (Jvm.Term.int (26 : Int32))) (Jvm.Term.int (100 : Int32)),
 Jvm.Cond.eq (Jvm.Term.elem (Jvm.Term.field (Jvm.Term.string "Encores$Tape" (80 : Nat)) "java/lang/String" "value" "[B") (Jvm.Term.int (27 : Int32))) (Jvm.Term.int (32 : Int32)),
 Jvm.Cond.eq (Jvm.Term.elem (Jvm.Term.field (Jvm.Term.string "Encores$Tape" (80 : Nat)) "java/lang/String" "value" "[B") (Jvm.Term.int (28 : Int32))) (Jvm.Term.int (110 : Int32)),
 Jvm.Cond.eq (Jvm.Term.elem (Jvm.Term.field (Jvm.Term.string "Encores$Tape" (80 : Nat)) "java/lang/String" "value" "[B") (Jvm.Term.int (29 : Int32))) (Jvm.Term.int (111 : Int32)),
 Jvm.Cond.eq (Jvm.Term.elem (Jvm.Term.field (Jvm.Term.string "Encores$Tape" (80 : Nat)) "java/lang/String" "value" "[B") (Jvm.Term.int (30 : Int32))) (Jvm.Term.int (116 : Int32)),
 Jvm.Cond.eq (Jvm.Term.elem (Jvm.Term.field (Jvm.Term.string "Encores$Tape" (80 : Nat)) "java/lang/String" "value" "[B") (Jvm.Term.int (31 : Int32))) (Jvm.Term.int (32 : Int32)),
 Jvm.Cond.eq (Jvm.Term.elem (Jvm.Term.field (Jvm.Term.string "Encores$Tape" (80 : Nat)) "java/lang/String" "value" "[B") (Jvm.Term.int (32 : Int32))) (Jvm.Term.int (104 : Int32)),
 Jvm.Cond.eq (Jvm.Term.elem (Jvm.Term.field (Jvm.Term.string "Encores$Tape" (80 : Nat)) "java/lang/String" "value" "[B") (Jvm.Term.int (33 : Int32))) (Jvm.Term.int (101 : Int32)),
 Jvm.Cond.eq (Jvm.Term.elem (Jvm.Term.field (Jvm.Term.string "Encores$Tape" (80 : Nat)) "java/lang/String" "value" "[B") (Jvm.Term.int (34 : Int32))) (Jvm.Term.int (97 : Int32)),
 Jvm.Cond.eq (Jvm.Term.elem (Jvm.Term.field (Jvm.Term.string "Encores$Tape" (80 : Nat)) "java/lang/String" "value" "[B") (Jvm.Term.int (35 : Int32))) (Jvm.Term.int (114 : Int32)),
 Jvm.Cond.eq (Jvm.Term.elem (Jvm.Term.field (Jvm.Term.string "Encores$Tape" (80 : Nat)) "java/lang/String" "value" "[B") (Jvm.Term.int (36 : Int32))) (Jvm.Term.int (101 : Int32)),
 Jvm.Cond.eq (Jvm.Term.elem (Jvm.Term.field (Jvm.Term.string "Encores$Tape" (80 : Nat)) "java/lang/String" "value" "[B") (Jvm.Term.int (37 : Int32))) (Jvm.Term.int (114 : Int32)),
 Jvm.Cond.eq (Jvm.Term.elem (Jvm.Term.field (Jvm.Term.string "Encores$Tape" (80 : Nat)) "java/lang/String" "value" "[B") (Jvm.Term.int (38 : Int32))) (Jvm.Term.int (32 : Int32)),
 Jvm.Cond.eq (Jvm.Term.elem (Jvm.Term.field (Jvm.Term.string "Encores$Tape" (80 : Nat)) "java/lang/String" "value" "[B") (Jvm.Term.int (39 : Int32))) (Jvm.Term.int (104 : Int32)),
 Jvm.Cond.eq (Jvm.Term.elem (Jvm.Term.field (Jvm.Term.string "Encores$Tape" (80 : Nat)) "java/lang/String" "value" "[B") (Jvm.Term.int (40 : Int32))) (Jvm.Term.int (97 : Int32)),
 Jvm.Cond.eq (Jvm.Term.elem (Jvm.Term.field (Jvm.Term.string "Encores$Tape" (80 : Nat)) "java/lang/String" "value" "[B") (Jvm.Term.int (41 : Int32))) (Jvm.Term.int (110 : Int32)),
 Jvm.Cond.eq (Jvm.Term.elem (Jvm.Term.field (Jvm.Term.string "Encores$Tape" (80 : Nat)) "java/lang/String" "value" "[B") (Jvm.Term.int (42 : Int32))) (Jvm.Term.int (100 : Int32)),
 Jvm.Cond.eq (Jvm.Term.elem (Jvm.Term.field (Jvm.Term.string "Encores$Tape" (80 : Nat)) "java/lang/String" "value" "[B") (Jvm.Term.int (43 : Int32))) (Jvm.Term.int (115 : Int32)),
 Jvm.Cond.eq (Jvm.Term.elem (Jvm.Term.field (Jvm.Term.string "Encores$Tape" (80 : Nat)) "java/lang/String" "value" "[B") (Jvm.Term.int (44 : Int32))) (Jvm.Term.int (32 : Int32)),
 Jvm.Cond.eq (Jvm.Term.elem (Jvm.Term.field (Jvm.Term.string "Encores$Tape" (80 : Nat)) "java/lang/String" "value" "[B") (Jvm.Term.int (45 : Int32))) (Jvm.Term.int (108 : Int32)),
 Jvm.Cond.eq (Jvm.Term.elem (Jvm.Term.field (Jvm.Term.string "Encores$Tape" (80 : Nat)) "java/lang/String" "value" "[B") (Jvm.Term.int (46 : Int32))) (Jvm.Term.int (105 : Int32)),
 Jvm.Cond.eq (Jvm.Term.elem (Jvm.Term.field (Jvm.Term.string "Encores$Tape" (80 : Nat)) "java/lang/String" "value" "[B") (Jvm.Term.int (47 : Int32))) (Jvm.Term.int (107 : Int32)),
 Jvm.Cond.eq (Jvm.Term.elem (Jvm.Term.field (Jvm.Term.string "Encores$Tape" (80 : Nat)) "java/lang/String" "value" "[B") (Jvm.Term.int (48 : Int32))) (Jvm.Term.int (101 : Int32)),
 Jvm.Cond.eq (Jvm.Term.elem (Jvm.Term.field (Jvm.Term.string "Encores$Tape" (80 : Nat)) "java/lang/String" "value" "[B") (Jvm.Term.int (49 : Int32))) (Jvm.Term.int (115 : Int32)),
 Jvm.Cond.eq (Jvm.Term.elem (Jvm.Term.field (Jvm.Term.string "Encores$Tape" (80 : Nat)) "java/lang/String" "value" "[B") (Jvm.Term.int (50 : Int32))) (Jvm.Term.int (32 : Int32)),
 Jvm.Cond.eq (Jvm.Term.elem (Jvm.Term.field (Jvm.Term.string "Encores$Tape" (80 : Nat)) "java/lang/String" "value" "[B") (Jvm.Term.int (51 : Int32))) (Jvm.Term.int (109 : Int32)),
 Jvm.Cond.eq (Jvm.Term.elem (Jvm.Term.field (Jvm.Term.string "Encores$Tape" (80 : Nat)) "java/lang/String" "value" "[B") (Jvm.Term.int (52 : Int32))) (Jvm.Term.int (97 : Int32)),
 Jvm.Cond.eq (Jvm.Term.elem (Jvm.Term.field (Jvm.Term.string "Encores$Tape" (80 : Nat)) "java/lang/String" "value" "[B") (Jvm.Term.int (53 : Int32))) (Jvm.Term.int (110 : Int32)),
 Jvm.Cond.eq (Jvm.Term.elem (Jvm.Term.field (Jvm.Term.string "Encores$Tape" (80 : Nat)) "java/lang/String" "value" "[B") (Jvm.Term.int (54 : Int32))) (Jvm.Term.int (110 : Int32)),
 Jvm.Cond.eq (Jvm.Term.elem (Jvm.Term.field (Jvm.Term.string "Encores$Tape" (80 : Nat)) "java/lang/String" "value" "[B") (Jvm.Term.int (55 : Int32))) (Jvm.Term.int (101 : Int32)),
 Jvm.Cond.eq (Jvm.Term.elem (Jvm.Term.field (Jvm.Term.string "Encores$Tape" (80 : Nat)) "java/lang/String" "value" "[B") (Jvm.Term.int (56 : Int32))) (Jvm.Term.int (114 : Int32)),
 Jvm.Cond.eq (Jvm.Term.elem (Jvm.Term.field (Jvm.Term.string "Encores$Tape" (80 : Nat)) "java/lang/String" "value" "[B") (Jvm.Term.int (57 : Int32))) (Jvm.Term.int (115 : Int32)),
 Jvm.Cond.eq (Jvm.Term.elem (Jvm.Term.field (Jvm.Term.string "Encores$Tape" (80 : Nat)) "java/lang/String" "value" "[B") (Jvm.Term.int (58 : Int32))) (Jvm.Term.int (32 : Int32)),
 Jvm.Cond.eq (Jvm.Term.elem (Jvm.Term.field (Jvm.Term.string "Encores$Tape" (80 : Nat)) "java/lang/String" "value" "[B") (Jvm.Term.int (59 : Int32))) (Jvm.Term.int (112 : Int32)),
 Jvm.Cond.eq (Jvm.Term.elem (Jvm.Term.field (Jvm.Term.string "Encores$Tape" (80 : Nat)) "java/lang/String" "value" "[B") (Jvm.Term.int (60 : Int32))) (Jvm.Term.int (97 : Int32)),
 Jvm.Cond.eq (Jvm.Term.elem (Jvm.Term.field (Jvm.Term.string "Encores$Tape" (80 : Nat)) "java/lang/String" "value" "[B") (Jvm.Term.int (61 : Int32))) (Jvm.Term.int (105 : Int32)),
 Jvm.Cond.eq (Jvm.Term.elem (Jvm.Term.field (Jvm.Term.string "Encores$Tape" (80 : Nat)) "java/lang/String" "value" "[B") (Jvm.Term.int (62 : Int32))) (Jvm.Term.int (100 : Int32)),
 Jvm.Cond.eq (Jvm.Term.elem (Jvm.Term.field (Jvm.Term.string "Encores$Tape" (80 : Nat)) "java/lang/String" "value" "[B") (Jvm.Term.int (63 : Int32))) (Jvm.Term.int (32 : Int32)),
 Jvm.Cond.eq (Jvm.Term.elem (Jvm.Term.field (Jvm.Term.string "Encores$Tape" (80 : Nat)) "java/lang/String" "value" "[B") (Jvm.Term.int (64 : Int32))) (Jvm.Term.int (119 : Int32)),
 Jvm.Cond.eq (Jvm.Term.elem (Jvm.Term.field (Jvm.Term.string "Encores$Tape" (80 : Nat)) "java/lang/String" "value" "[B") (Jvm.Term.int (65 : Int32))) (Jvm.Term.int (111 : Int32)),
 Jvm.Cond.eq (Jvm.Term.elem (Jvm.Term.field (Jvm.Term.string "Encores$Tape" (80 : Nat)) "java/lang/String" "value" "[B") (Jvm.Term.int (66 : Int32))) (Jvm.Term.int (114 : Int32)),
 Jvm.Cond.eq (Jvm.Term.elem (Jvm.Term.field (Jvm.Term.string "Encores$Tape" (80 : Nat)) "java/lang/String" "value" "[B") (Jvm.Term.int (67 : Int32))) (Jvm.Term.int (116 : Int32)),
 Jvm.Cond.eq (Jvm.Term.elem (Jvm.Term.field (Jvm.Term.string "Encores$Tape" (80 : Nat)) "java/lang/String" "value" "[B") (Jvm.Term.int (68 : Int32))) (Jvm.Term.int (104 : Int32)),
 Jvm.Cond.eq (Jvm.Term.elem (Jvm.Term.field (Jvm.Term.string "Encores$Tape" (80 : Nat)) "java/lang/String" "value" "[B") (Jvm.Term.int (69 : Int32))) (Jvm.Term.int (32 : Int32)),
 Jvm.Cond.eq (Jvm.Term.elem (Jvm.Term.field (Jvm.Term.string "Encores$Tape" (80 : Nat)) "java/lang/String" "value" "[B") (Jvm.Term.int (70 : Int32))) (Jvm.Term.int (119 : Int32)),
 Jvm.Cond.eq (Jvm.Term.elem (Jvm.Term.field (Jvm.Term.string "Encores$Tape" (80 : Nat)) "java/lang/String" "value" "[B") (Jvm.Term.int (71 : Int32))) (Jvm.Term.int (101 : Int32)),
 Jvm.Cond.eq (Jvm.Term.elem (Jvm.Term.field (Jvm.Term.string "Encores$Tape" (80 : Nat)) "java/lang/String" "value" "[B") (Jvm.Term.int (72 : Int32))) (Jvm.Term.int (97 : Int32)),
 Jvm.Cond.eq (Jvm.Term.elem (Jvm.Term.field (Jvm.Term.string "Encores$Tape" (80 : Nat)) "java/lang/String" "value" "[B") (Jvm.Term.int (73 : Int32))) (Jvm.Term.int (114 : Int32)),
 Jvm.Cond.eq (Jvm.Term.elem (Jvm.Term.field (Jvm.Term.string "Encores$Tape" (80 : Nat)) "java/lang/String" "value" "[B") (Jvm.Term.int (74 : Int32))) (Jvm.Term.int (32 : Int32)),
 Jvm.Cond.eq (Jvm.Term.elem (Jvm.Term.field (Jvm.Term.string "Encores$Tape" (80 : Nat)) "java/lang/String" "value" "[B") (Jvm.Term.int (75 : Int32))) (Jvm.Term.int (97 : Int32)),
 Jvm.Cond.eq (Jvm.Term.elem (Jvm.Term.field (Jvm.Term.string "Encores$Tape" (80 : Nat)) "java/lang/String" "value" "[B") (Jvm.Term.int (76 : Int32))) (Jvm.Term.int (103 : Int32)),
 Jvm.Cond.eq (Jvm.Term.elem (Jvm.Term.field (Jvm.Term.string "Encores$Tape" (80 : Nat)) "java/lang/String" "value" "[B") (Jvm.Term.int (77 : Int32))) (Jvm.Term.int (97 : Int32)),
 Jvm.Cond.eq (Jvm.Term.elem (Jvm.Term.field (Jvm.Term.string "Encores$Tape" (80 : Nat)) "java/lang/String" "value" "[B") (Jvm.Term.int (78 : Int32))) (Jvm.Term.int (105 : Int32)),
 Jvm.Cond.eq (Jvm.Term.elem (Jvm.Term.field (Jvm.Term.string "Encores$Tape" (80 : Nat)) "java/lang/String" "value" "[B") (Jvm.Term.int (79 : Int32))) (Jvm.Term.int (110 : Int32)),
 Jvm.Cond.eq (Jvm.Term.elem (Jvm.Term.field (Jvm.Term.string "Encores$Tape" (80 : Nat)) "java/lang/String" "value" "[B") (Jvm.Term.int (80 : Int32))) (Jvm.Term.int (115 : Int32)),
 Jvm.Cond.eq (Jvm.Term.elem (Jvm.Term.field (Jvm.Term.string "Encores$Tape" (80 : Nat)) "java/lang/String" "value" "[B") (Jvm.Term.int (81 : Int32))) (Jvm.Term.int (32 : Int32)),
 Jvm.Cond.eq (Jvm.Term.elem (Jvm.Term.field (Jvm.Term.string "Encores$Tape" (80 : Nat)) "java/lang/String" "value" "[B") (Jvm.Term.int (82 : Int32))) (Jvm.Term.int (98 : Int32)),
 Jvm.Cond.eq (Jvm.Term.elem (Jvm.Term.field (Jvm.Term.string "Encores$Tape" (80 : Nat)) "java/lang/String" "value" "[B") (Jvm.Term.int (83 : Int32))) (Jvm.Term.int (101 : Int32)),
 Jvm.Cond.eq (Jvm.Term.elem (Jvm.Term.field (Jvm.Term.string "Encores$Tape" (80 : Nat)) "java/lang/String" "value" "[B") (Jvm.Term.int (84 : Int32))) (Jvm.Term.int (115 : Int32)),
 Jvm.Cond.eq (Jvm.Term.elem (Jvm.Term.field (Jvm.Term.string "Encores$Tape" (80 : Nat)) "java/lang/String" "value" "[B") (Jvm.Term.int (85 : Int32))) (Jvm.Term.int (105 : Int32)),
 Jvm.Cond.eq (Jvm.Term.elem (Jvm.Term.field (Jvm.Term.string "Encores$Tape" (80 : Nat)) "java/lang/String" "value" "[B") (Jvm.Term.int (86 : Int32))) (Jvm.Term.int (100 : Int32)),
 Jvm.Cond.eq (Jvm.Term.elem (Jvm.Term.field (Jvm.Term.string "Encores$Tape" (80 : Nat)) "java/lang/String" "value" "[B") (Jvm.Term.int (87 : Int32))) (Jvm.Term.int (101 : Int32)),
 Jvm.Cond.eq (Jvm.Term.elem (Jvm.Term.field (Jvm.Term.string "Encores$Tape" (80 : Nat)) "java/lang/String" "value" "[B") (Jvm.Term.int (88 : Int32))) (Jvm.Term.int (32 : Int32)),
 Jvm.Cond.eq (Jvm.Term.elem (Jvm.Term.field (Jvm.Term.string "Encores$Tape" (80 : Nat)) "java/lang/String" "value" "[B") (Jvm.Term.int (89 : Int32))) (Jvm.Term.int (108 : Int32)),
 Jvm.Cond.eq (Jvm.Term.elem (Jvm.Term.field (Jvm.Term.string "Encores$Tape" (80 : Nat)) "java/lang/String" "value" "[B") (Jvm.Term.int (90 : Int32))) (Jvm.Term.int (97 : Int32)),
 Jvm.Cond.eq (Jvm.Term.elem (Jvm.Term.field (Jvm.Term.string "Encores$Tape" (80 : Nat)) "java/lang/String" "value" "[B") (Jvm.Term.int (91 : Int32))) (Jvm.Term.int (116 : Int32)),
 Jvm.Cond.eq (Jvm.Term.elem (Jvm.Term.field (Jvm.Term.string "Encores$Tape" (80 : Nat)) "java/lang/String" "value" "[B") (Jvm.Term.int (92 : Int32))) (Jvm.Term.int (101 : Int32)),
 Jvm.Cond.eq (Jvm.Term.elem (Jvm.Term.field (Jvm.Term.string "Encores$Tape" (80 : Nat)) "java/lang/String" "value" "[B") (Jvm.Term.int (93 : Int32))) (Jvm.Term.int (32 : Int32)),
 Jvm.Cond.eq (Jvm.Term.elem (Jvm.Term.field (Jvm.Term.string "Encores$Tape" (80 : Nat)) "java/lang/String" "value" "[B") (Jvm.Term.int (94 : Int32))) (Jvm.Term.int (102 : Int32)),
 Jvm.Cond.eq (Jvm.Term.elem (Jvm.Term.field (Jvm.Term.string "Encores$Tape" (80 : Nat)) "java/lang/String" "value" "[B") (Jvm.Term.int (95 : Int32))) (Jvm.Term.int (114 : Int32)),
 Jvm.Cond.eq (Jvm.Term.elem (Jvm.Term.field (Jvm.Term.string "Encores$Tape" (80 : Nat)) "java/lang/String" "value" "[B") (Jvm.Term.int (96 : Int32))) (Jvm.Term.int (111 : Int32)),
 Jvm.Cond.eq (Jvm.Term.elem (Jvm.Term.field (Jvm.Term.string "Encores$Tape" (80 : Nat)) "java/lang/String" "value" "[B") (Jvm.Term.int (97 : Int32))) (Jvm.Term.int (109 : Int32)),
 Jvm.Cond.eq (Jvm.Term.elem (Jvm.Term.field (Jvm.Term.string "Encores$Tape" (80 : Nat)) "java/lang/String" "value" "[B") (Jvm.Term.int (98 : Int32))) (Jvm.Term.int (32 : Int32)),
 Jvm.Cond.eq (Jvm.Term.elem (Jvm.Term.field (Jvm.Term.string "Encores$Tape" (80 : Nat)) "java/lang/String" "value" "[B") (Jvm.Term.int (99 : Int32))) (Jvm.Term.int (109 : Int32)),
 Jvm.Cond.eq (Jvm.Term.elem (Jvm.Term.field (Jvm.Term.string "Encores$Tape" (80 : Nat)) "java/lang/String" "value" "[B") (Jvm.Term.int (100 : Int32))) (Jvm.Term.int (111 : Int32)),
 Jvm.Cond.eq (Jvm.Term.elem (Jvm.Term.field (Jvm.Term.string "Encores$Tape" (80 : Nat)) "java/lang/String" "value" "[B") (Jvm.Term.int (101 : Int32))) (Jvm.Term.int (115 : Int32)),
 Jvm.Cond.eq (Jvm.Term.elem (Jvm.Term.field (Jvm.Term.string "Encores$Tape" (80 : Nat)) "java/lang/String" "value" "[B") (Jvm.Term.int (102 : Int32))) (Jvm.Term.int (116 : Int32)),
 Jvm.Cond.eq (Jvm.Term.elem (Jvm.Term.field (Jvm.Term.string "Encores$Tape" (80 : Nat)) "java/lang/String" "value" "[B") (Jvm.Term.int (103 : Int32))) (Jvm.Term.int (32 : Int32)),
 Jvm.Cond.eq (Jvm.Term.elem (Jvm.Term.field (Jvm.Term.string "Encores$Tape" (80 : Nat)) "java/lang/String" "value" "[B") (Jvm.Term.int (104 : Int32))) (Jvm.Term.int (100 : Int32)),
 Jvm.Cond.eq (Jvm.Term.elem (Jvm.Term.field (Jvm.Term.string "Encores$Tape" (80 : Nat)) "java/lang/String" "value" "[B") (Jvm.Term.int (105 : Int32))) (Jvm.Term.int (111 : Int32)),
 Jvm.Cond.eq (Jvm.Term.elem (Jvm.Term.field (Jvm.Term.string "Encores$Tape" (80 : Nat)) "java/lang/String" "value" "[B") (Jvm.Term.int (106 : Int32))) (Jvm.Term.int (117 : Int32)),
 Jvm.Cond.eq (Jvm.Term.elem (Jvm.Term.field (Jvm.Term.string "Encores$Tape" (80 : Nat)) "java/lang/String" "value" "[B") (Jvm.Term.int (107 : Int32))) (Jvm.Term.int (98 : Int32)),
 Jvm.Cond.eq (Jvm.Term.elem (Jvm.Term.field (Jvm.Term.string "Encores$Tape" (80 : Nat)) "java/lang/String" "value" "[B") (Jvm.Term.int (108 : Int32))) (Jvm.Term.int (108 : Int32)),
 Jvm.Cond.eq (Jvm.Term.elem (Jvm.Term.field (Jvm.Term.string "Encores$Tape" (80 : Nat)) "java/lang/String" "value" "[B") (Jvm.Term.int (109 : Int32))) (Jvm.Term.int (101 : Int32)),
 Jvm.Cond.eq (Jvm.Term.elem (Jvm.Term.field (Jvm.Term.string "Encores$Tape" (80 : Nat)) "java/lang/String" "value" "[B") (Jvm.Term.int (110 : Int32))) (Jvm.Term.int (32 : Int32)),
 Jvm.Cond.eq (Jvm.Term.elem (Jvm.Term.field (Jvm.Term.string "Encores$Tape" (80 : Nat)) "java/lang/String" "value" "[B") (Jvm.Term.int (111 : Int32))) (Jvm.Term.int (101 : Int32)),
 Jvm.Cond.eq (Jvm.Term.elem (Jvm.Term.field (Jvm.Term.string "Encores$Tape" (80 : Nat)) "java/lang/String" "value" "[B") (Jvm.Term.int (112 : Int32))) (Jvm.Term.int (110 : Int32)),
 Jvm.Cond.eq (Jvm.Term.elem (Jvm.Term.field (Jvm.Term.string "Encores$Tape" (80 : Nat)) "java/lang/String" "value" "[B") (Jvm.Term.int (113 : Int32))) (Jvm.Term.int (100 : Int32)),
 Jvm.Cond.eq (Jvm.Term.elem (Jvm.Term.field (Jvm.Term.string "Encores$Tape" (80 : Nat)) "java/lang/String" "value" "[B") (Jvm.Term.int (114 : Int32))) (Jvm.Term.int (32 : Int32)),
 Jvm.Cond.eq (Jvm.Term.elem (Jvm.Term.field (Jvm.Term.string "Encores$Tape" (80 : Nat)) "java/lang/String" "value" "[B") (Jvm.Term.int (115 : Int32))) (Jvm.Term.int (97 : Int32)),
 Jvm.Cond.eq (Jvm.Term.elem (Jvm.Term.field (Jvm.Term.string "Encores$Tape" (80 : Nat)) "java/lang/String" "value" "[B") (Jvm.Term.int (116 : Int32))) (Jvm.Term.int (116 : Int32)),
 Jvm.Cond.eq (Jvm.Term.elem (Jvm.Term.field (Jvm.Term.string "Encores$Tape" (80 : Nat)) "java/lang/String" "value" "[B") (Jvm.Term.int (117 : Int32))) (Jvm.Term.int (32 : Int32)),
 Jvm.Cond.eq (Jvm.Term.elem (Jvm.Term.field (Jvm.Term.string "Encores$Tape" (80 : Nat)) "java/lang/String" "value" "[B") (Jvm.Term.int (118 : Int32))) (Jvm.Term.int (100 : Int32)),
 Jvm.Cond.eq (Jvm.Term.elem (Jvm.Term.field (Jvm.Term.string "Encores$Tape" (80 : Nat)) "java/lang/String" "value" "[B") (Jvm.Term.int (119 : Int32))) (Jvm.Term.int (101 : Int32)),
 Jvm.Cond.eq (Jvm.Term.elem (Jvm.Term.field (Jvm.Term.string "Encores$Tape" (80 : Nat)) "java/lang/String" "value" "[B") (Jvm.Term.int (120 : Int32))) (Jvm.Term.int (101 : Int32)),
 Jvm.Cond.eq (Jvm.Term.elem (Jvm.Term.field (Jvm.Term.string "Encores$Tape" (80 : Nat)) "java/lang/String" "value" "[B") (Jvm.Term.int (121 : Int32))) (Jvm.Term.int (100 : Int32)),
 Jvm.Cond.eq (Jvm.Term.elem (Jvm.Term.field (Jvm.Term.string "Encores$Tape" (80 : Nat)) "java/lang/String" "value" "[B") (Jvm.Term.int (122 : Int32))) (Jvm.Term.int (32 : Int32)),
 Jvm.Cond.exactly (Jvm.Term.string "EncoresModel" (121 : Nat)) "java/lang/String",
 Jvm.Cond.eq (Jvm.Term.field (Jvm.Term.string "EncoresModel" (121 : Nat)) "java/lang/String" "coder" "B") (Jvm.Term.int (0 : Int32)),
 Jvm.Cond.arrayOf (Jvm.Term.field (Jvm.Term.string "EncoresModel" (121 : Nat)) "java/lang/String" "value" "[B") Jvm.ClassFile.FieldType.byte,
 Jvm.Cond.eq (Jvm.Term.length (Jvm.Term.field (Jvm.Term.string "EncoresModel" (121 : Nat)) "java/lang/String" "value" "[B")) (Jvm.Term.int (4 : Int32)),
 Jvm.Cond.eq (Jvm.Term.elem (Jvm.Term.field (Jvm.Term.string "EncoresModel" (121 : Nat)) "java/lang/String" "value" "[B") (Jvm.Term.int (0 : Int32))) (Jvm.Term.int (119 : Int32)),
 Jvm.Cond.eq (Jvm.Term.elem (Jvm.Term.field (Jvm.Term.string "EncoresModel" (121 : Nat)) "java/lang/String" "value" "[B") (Jvm.Term.int (1 : Int32))) (Jvm.Term.int (104 : Int32)),
 Jvm.Cond.eq (Jvm.Term.elem (Jvm.Term.field (Jvm.Term.string "EncoresModel" (121 : Nat)) "java/lang/String" "value" "[B") (Jvm.Term.int (2 : Int32))) (Jvm.Term.int (101 : Int32)),
 Jvm.Cond.eq (Jvm.Term.elem (Jvm.Term.field (Jvm.Term.string "EncoresModel" (121 : Nat)) "java/lang/String" "value" "[B") (Jvm.Term.int (3 : Int32))) (Jvm.Term.int (110 : Int32)),
 Jvm.Cond.not (Jvm.Cond.eq (Jvm.Term.string "Encores$Tape" (80 : Nat)) (Jvm.Term.string "EncoresModel" (121 : Nat))),
 Jvm.Cond.exactly (Jvm.Term.string "EncoresModel" (123 : Nat)) "java/lang/String",
 Jvm.Cond.eq (Jvm.Term.field (Jvm.Term.string "EncoresModel" (123 : Nat)) "java/lang/String" "coder" "B") (Jvm.Term.int (0 : Int32)),
 Jvm.Cond.arrayOf (Jvm.Term.field (Jvm.Term.string "EncoresModel" (123 : Nat)) "java/lang/String" "value" "[B") Jvm.ClassFile.FieldType.byte,
 Jvm.Cond.eq (Jvm.Term.length (Jvm.Term.field (Jvm.Term.string "EncoresModel" (123 : Nat)) "java/lang/String" "value" "[B")) (Jvm.Term.int (2 : Int32)),
 Jvm.Cond.eq (Jvm.Term.elem (Jvm.Term.field (Jvm.Term.string "EncoresModel" (123 : Nat)) "java/lang/String" "value" "[B") (Jvm.Term.int (0 : Int32))) (Jvm.Term.int (111 : Int32)),
 Jvm.Cond.eq (Jvm.Term.elem (Jvm.Term.field (Jvm.Term.string "EncoresModel" (123 : Nat)) "java/lang/String" "value" "[B") (Jvm.Term.int (1 : Int32))) (Jvm.Term.int (114 : Int32)),
 Jvm.Cond.not (Jvm.Cond.eq (Jvm.Term.string "Encores$Tape" (80 : Nat)) (Jvm.Term.string "EncoresModel" (123 : Nat))),
 Jvm.Cond.not (Jvm.Cond.eq (Jvm.Term.string "EncoresModel" (121 : Nat)) (Jvm.Term.string "EncoresModel" (123 : Nat))),
 Jvm.Cond.exactly (Jvm.Term.string "EncoresModel" (125 : Nat)) "java/lang/String",
 Jvm.Cond.eq (Jvm.Term.field (Jvm.Term.string "EncoresModel" (125 : Nat)) "java/lang/String" "coder" "B") (Jvm.Term.int (0 : Int32)),
 Jvm.Cond.arrayOf (Jvm.Term.field (Jvm.Term.string "EncoresModel" (125 : Nat)) "java/lang/String" "value" "[B") Jvm.ClassFile.FieldType.byte,
 Jvm.Cond.eq (Jvm.Term.length (Jvm.Term.field (Jvm.Term.string "EncoresModel" (125 : Nat)) "java/lang/String" "value" "[B")) (Jvm.Term.int (3 : Int32)),
 Jvm.Cond.eq (Jvm.Term.elem (Jvm.Term.field (Jvm.Term.string "EncoresModel" (125 : Nat)) "java/lang/String" "value" "[B") (Jvm.Term.int (0 : Int32))) (Jvm.Term.int (97 : Int32)),
 Jvm.Cond.eq (Jvm.Term.elem (Jvm.Term.field (Jvm.Term.string "EncoresModel" (125 : Nat)) "java/lang/String" "value" "[B") (Jvm.Term.int (1 : Int32))) (Jvm.Term.int (110 : Int32)),
 Jvm.Cond.eq (Jvm.Term.elem (Jvm.Term.field (Jvm.Term.string "EncoresModel" (125 : Nat)) "java/lang/String" "value" "[B") (Jvm.Term.int (2 : Int32))) (Jvm.Term.int (100 : Int32)),
 Jvm.Cond.not (Jvm.Cond.eq (Jvm.Term.string "Encores$Tape" (80 : Nat)) (Jvm.Term.string "EncoresModel" (125 : Nat))),
 Jvm.Cond.not (Jvm.Cond.eq (Jvm.Term.string "EncoresModel" (121 : Nat)) (Jvm.Term.string "EncoresModel" (125 : Nat))),
 Jvm.Cond.not (Jvm.Cond.eq (Jvm.Term.string "EncoresModel" (123 : Nat)) (Jvm.Term.string "EncoresModel" (125 : Nat))),
 Jvm.Cond.exactly (Jvm.Term.string "EncoresModel" (127 : Nat)) "java/lang/String",
 Jvm.Cond.eq (Jvm.Term.field (Jvm.Term.string "EncoresModel" (127 : Nat)) "java/lang/String" "coder" "B") (Jvm.Term.int (0 : Int32)),
 Jvm.Cond.arrayOf (Jvm.Term.field (Jvm.Term.string "EncoresModel" (127 : Nat)) "java/lang/String" "value" "[B") Jvm.ClassFile.FieldType.byte,
 Jvm.Cond.eq (Jvm.Term.length (Jvm.Term.field (Jvm.Term.string "EncoresModel" (127 : Nat)) "java/lang/String" "value" "[B")) (Jvm.Term.int (3 : Int32)),
 Jvm.Cond.eq (Jvm.Term.elem (Jvm.Term.field (Jvm.Term.string "EncoresModel" (127 : Nat)) "java/lang/String" "value" "[B") (Jvm.Term.int (0 : Int32))) (Jvm.Term.int (110 : Int32)),
 Jvm.Cond.eq (Jvm.Term.elem (Jvm.Term.field (Jvm.Term.string "EncoresModel" (127 : Nat)) "java/lang/String" "value" "[B") (Jvm.Term.int (1 : Int32))) (Jvm.Term.int (111 : Int32)),
 Jvm.Cond.eq (Jvm.Term.elem (Jvm.Term.field (Jvm.Term.string "EncoresModel" (127 : Nat)) "java/lang/String" "value" "[B") (Jvm.Term.int (2 : Int32))) (Jvm.Term.int (116 : Int32)),
 Jvm.Cond.not (Jvm.Cond.eq (Jvm.Term.string "Encores$Tape" (80 : Nat)) (Jvm.Term.string "EncoresModel" (127 : Nat))),
 Jvm.Cond.not (Jvm.Cond.eq (Jvm.Term.string "EncoresModel" (121 : Nat)) (Jvm.Term.string "EncoresModel" (127 : Nat))),
 Jvm.Cond.not (Jvm.Cond.eq (Jvm.Term.string "EncoresModel" (123 : Nat)) (Jvm.Term.string "EncoresModel" (127 : Nat))),
 Jvm.Cond.not (Jvm.Cond.eq (Jvm.Term.string "EncoresModel" (125 : Nat)) (Jvm.Term.string "EncoresModel" (127 : Nat))),
 Jvm.Cond.exactly (Jvm.Term.string "EncoresModel" (129 : Nat)) "java/lang/String",
 Jvm.Cond.eq (Jvm.Term.field (Jvm.Term.string "EncoresModel" (129 : Nat)) "java/lang/String" "coder" "B") (Jvm.Term.int (0 : Int32)),
 Jvm.Cond.arrayOf (Jvm.Term.field (Jvm.Term.string "EncoresModel" (129 : Nat)) "java/lang/String" "value" "[B") Jvm.ClassFile.FieldType.byte,
 Jvm.Cond.eq (Jvm.Term.length (Jvm.Term.field (Jvm.Term.string "EncoresModel" (129 : Nat)) "java/lang/String" "value" "[B")) (Jvm.Term.int (4 : Int32)),
 Jvm.Cond.eq (Jvm.Term.elem (Jvm.Term.field (Jvm.Term.string "EncoresModel" (129 : Nat)) "java/lang/String" "value" "[B") (Jvm.Term.int (0 : Int32))) (Jvm.Term.int (108 : Int32)),
 Jvm.Cond.eq (Jvm.Term.elem (Jvm.Term.field (Jvm.Term.string "EncoresModel" (129 : Nat)) "java/lang/String" "value" "[B") (Jvm.Term.int (1 : Int32))) (Jvm.Term.int (111 : Int32)),
 Jvm.Cond.eq (Jvm.Term.elem (Jvm.Term.field (Jvm.Term.string "EncoresModel" (129 : Nat)) "java/lang/String" "value" "[B") (Jvm.Term.int (2 : Int32))) (Jvm.Term.int (117 : Int32)),
 Jvm.Cond.eq (Jvm.Term.elem (Jvm.Term.field (Jvm.Term.string "EncoresModel" (129 : Nat)) "java/lang/String" "value" "[B") (Jvm.Term.int (3 : Int32))) (Jvm.Term.int (100 : Int32)),
 Jvm.Cond.not (Jvm.Cond.eq (Jvm.Term.string "Encores$Tape" (80 : Nat)) (Jvm.Term.string "EncoresModel" (129 : Nat))),
 Jvm.Cond.not (Jvm.Cond.eq (Jvm.Term.string "EncoresModel" (121 : Nat)) (Jvm.Term.string "EncoresModel" (129 : Nat))),
 Jvm.Cond.not (Jvm.Cond.eq (Jvm.Term.string "EncoresModel" (123 : Nat)) (Jvm.Term.string "EncoresModel" (129 : Nat))),
 Jvm.Cond.not (Jvm.Cond.eq (Jvm.Term.string "EncoresModel" (125 : Nat)) (Jvm.Term.string "EncoresModel" (129 : Nat))),
 Jvm.Cond.not (Jvm.Cond.eq (Jvm.Term.string "EncoresModel" (127 : Nat)) (Jvm.Term.string "EncoresModel" (129 : Nat))),
 Jvm.Cond.exactly (Jvm.Term.string "EncoresModel" (131 : Nat)) "java/lang/String",
 Jvm.Cond.eq (Jvm.Term.field (Jvm.Term.string "EncoresModel" (131 : Nat)) "java/lang/String" "coder" "B") (Jvm.Term.int (0 : Int32)),
 Jvm.Cond.arrayOf (Jvm.Term.field (Jvm.Term.string "EncoresModel" (131 : Nat)) "java/lang/String" "value" "[B") Jvm.ClassFile.FieldType.byte,
 Jvm.Cond.eq (Jvm.Term.length (Jvm.Term.field (Jvm.Term.string "EncoresModel" (131 : Nat)) "java/lang/String" "value" "[B")) (Jvm.Term.int (4 : Int32)),
 Jvm.Cond.eq (Jvm.Term.elem (Jvm.Term.field (Jvm.Term.string "EncoresModel" (131 : Nat)) "java/lang/String" "value" "[B") (Jvm.Term.int (0 : Int32))) (Jvm.Term.int (99 : Int32)),
 Jvm.Cond.eq (Jvm.Term.elem (Jvm.Term.field (Jvm.Term.string "EncoresModel" (131 : Nat)) "java/lang/String" "value" "[B") (Jvm.Term.int (1 : Int32))) (Jvm.Term.int (108 : Int32)),
 Jvm.Cond.eq (Jvm.Term.elem (Jvm.Term.field (Jvm.Term.string "EncoresModel" (131 : Nat)) "java/lang/String" "value" "[B") (Jvm.Term.int (2 : Int32))) (Jvm.Term.int (97 : Int32)),
 Jvm.Cond.eq (Jvm.Term.elem (Jvm.Term.field (Jvm.Term.string "EncoresModel" (131 : Nat)) "java/lang/String" "value" "[B") (Jvm.Term.int (3 : Int32))) (Jvm.Term.int (112 : Int32)),
 Jvm.Cond.not (Jvm.Cond.eq (Jvm.Term.string "Encores$Tape" (80 : Nat)) (Jvm.Term.string "EncoresModel" (131 : Nat))),
 Jvm.Cond.not (Jvm.Cond.eq (Jvm.Term.string "EncoresModel" (121 : Nat)) (Jvm.Term.string "EncoresModel" (131 : Nat))),
 Jvm.Cond.not (Jvm.Cond.eq (Jvm.Term.string "EncoresModel" (123 : Nat)) (Jvm.Term.string "EncoresModel" (131 : Nat))),
 Jvm.Cond.not (Jvm.Cond.eq (Jvm.Term.string "EncoresModel" (125 : Nat)) (Jvm.Term.string "EncoresModel" (131 : Nat))),
 Jvm.Cond.not (Jvm.Cond.eq (Jvm.Term.string "EncoresModel" (127 : Nat)) (Jvm.Term.string "EncoresModel" (131 : Nat))),
 Jvm.Cond.not (Jvm.Cond.eq (Jvm.Term.string "EncoresModel" (129 : Nat)) (Jvm.Term.string "EncoresModel" (131 : Nat))),
 Jvm.Cond.exactly (Jvm.Term.string "EncoresModel" (133 : Nat)) "java/lang/String",
 Jvm.Cond.eq (Jvm.Term.field (Jvm.Term.string "EncoresModel" (133 : Nat)) "java/lang/String" "coder" "B") (Jvm.Term.int (0 : Int32)),
 Jvm.Cond.arrayOf (Jvm.Term.field (Jvm.Term.string "EncoresModel" (133 : Nat)) "java/lang/String" "value" "[B") Jvm.ClassFile.FieldType.byte,
 Jvm.Cond.eq (Jvm.Term.length (Jvm.Term.field (Jvm.Term.string "EncoresModel" (133 : Nat)) "java/lang/String" "value" "[B")) (Jvm.Term.int (5 : Int32)),
 Jvm.Cond.eq (Jvm.Term.elem (Jvm.Term.field (Jvm.Term.string "EncoresModel" (133 : Nat)) "java/lang/String" "value" "[B") (Jvm.Term.int (0 : Int32))) (Jvm.Term.int (119 : Int32)),
 Jvm.Cond.eq (Jvm.Term.elem (Jvm.Term.field (Jvm.Term.string "EncoresModel" (133 : Nat)) "java/lang/String" "value" "[B") (Jvm.Term.int (1 : Int32))) (Jvm.Term.int (101 : Int32)),
 Jvm.Cond.eq (Jvm.Term.elem (Jvm.Term.field (Jvm.Term.string "EncoresModel" (133 : Nat)) "java/lang/String" "value" "[B") (Jvm.Term.int (2 : Int32))) (Jvm.Term.int (97 : Int32)),
 Jvm.Cond.eq (Jvm.Term.elem (Jvm.Term.field (Jvm.Term.string "EncoresModel" (133 : Nat)) "java/lang/String" "value" "[B") (Jvm.Term.int (3 : Int32))) (Jvm.Term.int (114 : Int32)),
 Jvm.Cond.eq (Jvm.Term.elem (Jvm.Term.field (Jvm.Term.string "EncoresModel" (133 : Nat)) "java/lang/String" "value" "[B") (Jvm.Term.int (4 : Int32))) (Jvm.Term.int (115 : Int32)),
 Jvm.Cond.not (Jvm.Cond.eq (Jvm.Term.string "Encores$Tape" (80 : Nat)) (Jvm.Term.string "EncoresModel" (133 : Nat))),
 Jvm.Cond.not (Jvm.Cond.eq (Jvm.Term.string "EncoresModel" (121 : Nat)) (Jvm.Term.string "EncoresModel" (133 : Nat))),
 Jvm.Cond.not (Jvm.Cond.eq (Jvm.Term.string "EncoresModel" (123 : Nat)) (Jvm.Term.string "EncoresModel" (133 : Nat))),
 Jvm.Cond.not (Jvm.Cond.eq (Jvm.Term.string "EncoresModel" (125 : Nat)) (Jvm.Term.string "EncoresModel" (133 : Nat))),
 Jvm.Cond.not (Jvm.Cond.eq (Jvm.Term.string "EncoresModel" (127 : Nat)) (Jvm.Term.string "EncoresModel" (133 : Nat))),
 Jvm.Cond.not (Jvm.Cond.eq (Jvm.Term.string "EncoresModel" (129 : Nat)) (Jvm.Term.string "EncoresModel" (133 : Nat))),
 Jvm.Cond.not (Jvm.Cond.eq (Jvm.Term.string "EncoresModel" (131 : Nat)) (Jvm.Term.string "EncoresModel" (133 : Nat))),
 Jvm.Cond.exactly (Jvm.Term.string "EncoresModel" (97 : Nat)) "java/lang/String",
 Jvm.Cond.eq (Jvm.Term.field (Jvm.Term.string "EncoresModel" (97 : Nat)) "java/lang/String" "coder" "B") (Jvm.Term.int (0 : Int32)),
 Jvm.Cond.arrayOf (Jvm.Term.field (Jvm.Term.string "EncoresModel" (97 : Nat)) "java/lang/String" "value" "[B") Jvm.ClassFile.FieldType.byte,
 Jvm.Cond.eq (Jvm.Term.length (Jvm.Term.field (Jvm.Term.string "EncoresModel" (97 : Nat)) "java/lang/String" "value" "[B")) (Jvm.Term.int (6 : Int32)),
 Jvm.Cond.eq (Jvm.Term.elem (Jvm.Term.field (Jvm.Term.string "EncoresModel" (97 : Nat)) "java/lang/String" "value" "[B") (Jvm.Term.int (0 : Int32))) (Jvm.Term.int (104 : Int32)),
 Jvm.Cond.eq (Jvm.Term.elem (Jvm.Term.field (Jvm.Term.string "EncoresModel" (97 : Nat)) "java/lang/String" "value" "[B") (Jvm.Term.int (1 : Int32))) (Jvm.Term.int (101 : Int32)),
 Jvm.Cond.eq (Jvm.Term.elem (Jvm.Term.field (Jvm.Term.string "EncoresModel" (97 : Nat)) "java/lang/String" "value" "[B") (Jvm.Term.int (2 : Int32))) (Jvm.Term.int (97 : Int32)),
 Jvm.Cond.eq (Jvm.Term.elem (Jvm.Term.field (Jvm.Term.string "EncoresModel" (97 : Nat)) "java/lang/String" "value" "[B") (Jvm.Term.int (3 : Int32))) (Jvm.Term.int (114 : Int32)),
 Jvm.Cond.eq (Jvm.Term.elem (Jvm.Term.field (Jvm.Term.string "EncoresModel" (97 : Nat)) "java/lang/String" "value" "[B") (Jvm.Term.int (4 : Int32))) (Jvm.Term.int (101 : Int32)),
 Jvm.Cond.eq (Jvm.Term.elem (Jvm.Term.field (Jvm.Term.string "EncoresModel" (97 : Nat)) "java/lang/String" "value" "[B") (Jvm.Term.int (5 : Int32))) (Jvm.Term.int (114 : Int32)),
 Jvm.Cond.not (Jvm.Cond.eq (Jvm.Term.string "Encores$Tape" (80 : Nat)) (Jvm.Term.string "EncoresModel" (97 : Nat))),
 Jvm.Cond.not (Jvm.Cond.eq (Jvm.Term.string "EncoresModel" (121 : Nat)) (Jvm.Term.string "EncoresModel" (97 : Nat))),
 Jvm.Cond.not (Jvm.Cond.eq (Jvm.Term.string "EncoresModel" (123 : Nat)) (Jvm.Term.string "EncoresModel" (97 : Nat))),
 Jvm.Cond.not (Jvm.Cond.eq (Jvm.Term.string "EncoresModel" (125 : Nat)) (Jvm.Term.string "EncoresModel" (97 : Nat))),
 Jvm.Cond.not (Jvm.Cond.eq (Jvm.Term.string "EncoresModel" (127 : Nat)) (Jvm.Term.string "EncoresModel" (97 : Nat))),
 Jvm.Cond.not (Jvm.Cond.eq (Jvm.Term.string "EncoresModel" (129 : Nat)) (Jvm.Term.string "EncoresModel" (97 : Nat))),
 Jvm.Cond.not (Jvm.Cond.eq (Jvm.Term.string "EncoresModel" (131 : Nat)) (Jvm.Term.string "EncoresModel" (97 : Nat))),
 Jvm.Cond.not (Jvm.Cond.eq (Jvm.Term.string "EncoresModel" (133 : Nat)) (Jvm.Term.string "EncoresModel" (97 : Nat))),
 Jvm.Cond.exactly (Jvm.Term.string "EncoresModel" (103 : Nat)) "java/lang/String",
 Jvm.Cond.eq (Jvm.Term.field (Jvm.Term.string "EncoresModel" (103 : Nat)) "java/lang/String" "coder" "B") (Jvm.Term.int (0 : Int32)),
 Jvm.Cond.arrayOf (Jvm.Term.field (Jvm.Term.string "EncoresModel" (103 : Nat)) "java/lang/String" "value" "[B") Jvm.ClassFile.FieldType.byte,
 Jvm.Cond.eq (Jvm.Term.length (Jvm.Term.field (Jvm.Term.string "EncoresModel" (103 : Nat)) "java/lang/String" "value" "[B")) (Jvm.Term.int (5 : Int32)),
 Jvm.Cond.eq (Jvm.Term.elem (Jvm.Term.field (Jvm.Term.string "EncoresModel" (103 : Nat)) "java/lang/String" "value" "[B") (Jvm.Term.int (0 : Int32))) (Jvm.Term.int (104 : Int32)),
 Jvm.Cond.eq (Jvm.Term.elem (Jvm.Term.field (Jvm.Term.string "EncoresModel" (103 : Nat)) "java/lang/String" "value" "[B") (Jvm.Term.int (1 : Int32))) (Jvm.Term.int (97 : Int32)),
 Jvm.Cond.eq (Jvm.Term.elem (Jvm.Term.field (Jvm.Term.string "EncoresModel" (103 : Nat)) "java/lang/String" "value" "[B") (Jvm.Term.int (2 : Int32))) (Jvm.Term.int (110 : Int32)),
 Jvm.Cond.eq (Jvm.Term.elem (Jvm.Term.field (Jvm.Term.string "EncoresModel" (103 : Nat)) "java/lang/String" "value" "[B") (Jvm.Term.int (3 : Int32))) (Jvm.Term.int (100 : Int32)),
 Jvm.Cond.eq (Jvm.Term.elem (Jvm.Term.field (Jvm.Term.string "EncoresModel" (103 : Nat)) "java/lang/String" "value" "[B") (Jvm.Term.int (4 : Int32))) (Jvm.Term.int (115 : Int32)),
 Jvm.Cond.not (Jvm.Cond.eq (Jvm.Term.string "Encores$Tape" (80 : Nat)) (Jvm.Term.string "EncoresModel" (103 : Nat))),
 Jvm.Cond.not (Jvm.Cond.eq (Jvm.Term.string "EncoresModel" (121 : Nat)) (Jvm.Term.string "EncoresModel" (103 : Nat))),
 Jvm.Cond.not (Jvm.Cond.eq (Jvm.Term.string "EncoresModel" (123 : Nat)) (Jvm.Term.string "EncoresModel" (103 : Nat))),
 Jvm.Cond.not (Jvm.Cond.eq (Jvm.Term.string "EncoresModel" (125 : Nat)) (Jvm.Term.string "EncoresModel" (103 : Nat))),
 Jvm.Cond.not (Jvm.Cond.eq (Jvm.Term.string "EncoresModel" (127 : Nat)) (Jvm.Term.string "EncoresModel" (103 : Nat))),
 Jvm.Cond.not (Jvm.Cond.eq (Jvm.Term.string "EncoresModel" (129 : Nat)) (Jvm.Term.string "EncoresModel" (103 : Nat))),
 Jvm.Cond.not (Jvm.Cond.eq (Jvm.Term.string "EncoresModel" (131 : Nat)) (Jvm.Term.string "EncoresModel" (103 : Nat))),
 Jvm.Cond.not (Jvm.Cond.eq (Jvm.Term.string "EncoresModel" (133 : Nat)) (Jvm.Term.string "EncoresModel" (103 : Nat))),
 Jvm.Cond.not (Jvm.Cond.eq (Jvm.Term.string "EncoresModel" (97 : Nat)) (Jvm.Term.string "EncoresModel" (103 : Nat))),
 Jvm.Cond.exactly (Jvm.Term.string "EncoresModel" (105 : Nat)) "java/lang/String",
 Jvm.Cond.eq (Jvm.Term.field (Jvm.Term.string "EncoresModel" (105 : Nat)) "java/lang/String" "coder" "B") (Jvm.Term.int (0 : Int32)),
 Jvm.Cond.arrayOf (Jvm.Term.field (Jvm.Term.string "EncoresModel" (105 : Nat)) "java/lang/String" "value" "[B") Jvm.ClassFile.FieldType.byte,
 Jvm.Cond.eq (Jvm.Term.length (Jvm.Term.field (Jvm.Term.string "EncoresModel" (105 : Nat)) "java/lang/String" "value" "[B")) (Jvm.Term.int (5 : Int32)),
 Jvm.Cond.eq (Jvm.Term.elem (Jvm.Term.field (Jvm.Term.string "EncoresModel" (105 : Nat)) "java/lang/String" "value" "[B") (Jvm.Term.int (0 : Int32))) (Jvm.Term.int (108 : Int32)),
 Jvm.Cond.eq (Jvm.Term.elem (Jvm.Term.field (Jvm.Term.string "EncoresModel" (105 : Nat)) "java/lang/String" "value" "[B") (Jvm.Term.int (1 : Int32))) (Jvm.Term.int (105 : Int32)),
 Jvm.Cond.eq (Jvm.Term.elem (Jvm.Term.field (Jvm.Term.string "EncoresModel" (105 : Nat)) "java/lang/String" "value" "[B") (Jvm.Term.int (2 : Int32))) (Jvm.Term.int (107 : Int32)),
 Jvm.Cond.eq (Jvm.Term.elem (Jvm.Term.field (Jvm.Term.string "EncoresModel" (105 : Nat)) "java/lang/String" "value" "[B") (Jvm.Term.int (3 : Int32))) (Jvm.Term.int (101 : Int32)),
 Jvm.Cond.eq (Jvm.Term.elem (Jvm.Term.field (Jvm.Term.string "EncoresModel" (105 : Nat)) "java/lang/String" "value" "[B") (Jvm.Term.int (4 : Int32))) (Jvm.Term.int (115 : Int32)),
 Jvm.Cond.not (Jvm.Cond.eq (Jvm.Term.string "Encores$Tape" (80 : Nat)) (Jvm.Term.string "EncoresModel" (105 : Nat))),
 Jvm.Cond.not (Jvm.Cond.eq (Jvm.Term.string "EncoresModel" (121 : Nat)) (Jvm.Term.string "EncoresModel" (105 : Nat))),
 Jvm.Cond.not (Jvm.Cond.eq (Jvm.Term.string "EncoresModel" (123 : Nat)) (Jvm.Term.string "EncoresModel" (105 : Nat))),
 Jvm.Cond.not (Jvm.Cond.eq (Jvm.Term.string "EncoresModel" (125 : Nat)) (Jvm.Term.string "EncoresModel" (105 : Nat))),
 Jvm.Cond.not (Jvm.Cond.eq (Jvm.Term.string "EncoresModel" (127 : Nat)) (Jvm.Term.string "EncoresModel" (105 : Nat))),
 Jvm.Cond.not (Jvm.Cond.eq (Jvm.Term.string "EncoresModel" (129 : Nat)) (Jvm.Term.string "EncoresModel" (105 : Nat))),
 Jvm.Cond.not (Jvm.Cond.eq (Jvm.Term.string "EncoresModel" (131 : Nat)) (Jvm.Term.string "EncoresModel" (105 : Nat))),
 Jvm.Cond.not (Jvm.Cond.eq (Jvm.Term.string "EncoresModel" (133 : Nat)) (Jvm.Term.string "EncoresModel" (105 : Nat))),
 Jvm.Cond.not (Jvm.Cond.eq (Jvm.Term.string "EncoresModel" (97 : Nat)) (Jvm.Term.string "EncoresModel" (105 : Nat))),
 Jvm.Cond.not (Jvm.Cond.eq (Jvm.Term.string "EncoresModel" (103 : Nat)) (Jvm.Term.string "EncoresModel" (105 : Nat))),
 Jvm.Cond.exactly (Jvm.Term.string "EncoresModel" (107 : Nat)) "java/lang/String",
 Jvm.Cond.eq (Jvm.Term.field (Jvm.Term.string "EncoresModel" (107 : Nat)) "java/lang/String" "coder" "B") (Jvm.Term.int (0 : Int32)),
 Jvm.Cond.arrayOf (Jvm.Term.field (Jvm.Term.string "EncoresModel" (107 : Nat)) "java/lang/String" "value" "[B") Jvm.ClassFile.FieldType.byte,
 Jvm.Cond.eq (Jvm.Term.length (Jvm.Term.field (Jvm.Term.string "EncoresModel" (107 : Nat)) "java/lang/String" "value" "[B")) (Jvm.Term.int (7 : Int32)),
 Jvm.Cond.eq (Jvm.Term.elem (Jvm.Term.field (Jvm.Term.string "EncoresModel" (107 : Nat)) "java/lang/String" "value" "[B") (Jvm.Term.int (0 : Int32))) (Jvm.Term.int (109 : Int32)),
 Jvm.Cond.eq (Jvm.Term.elem (Jvm.Term.field (Jvm.Term.string "EncoresModel" (107 : Nat)) "java/lang/String" "value" "[B") (Jvm.Term.int (1 : Int32))) (Jvm.Term.int (97 : Int32)),
 Jvm.Cond.eq (Jvm.Term.elem (Jvm.Term.field (Jvm.Term.string "EncoresModel" (107 : Nat)) "java/lang/String" "value" "[B") (Jvm.Term.int (2 : Int32))) (Jvm.Term.int (110 : Int32)),
 Jvm.Cond.eq (Jvm.Term.elem (Jvm.Term.field (Jvm.Term.string "EncoresModel" (107 : Nat)) "java/lang/String" "value" "[B") (Jvm.Term.int (3 : Int32))) (Jvm.Term.int (110 : Int32)),
 Jvm.Cond.eq (Jvm.Term.elem (Jvm.Term.field (Jvm.Term.string "EncoresModel" (107 : Nat)) "java/lang/String" "value" "[B") (Jvm.Term.int (4 : Int32))) (Jvm.Term.int (101 : Int32)),
 Jvm.Cond.eq (Jvm.Term.elem (Jvm.Term.field (Jvm.Term.string "EncoresModel" (107 : Nat)) "java/lang/String" "value" "[B") (Jvm.Term.int (5 : Int32))) (Jvm.Term.int (114 : Int32)),
 Jvm.Cond.eq (Jvm.Term.elem (Jvm.Term.field (Jvm.Term.string "EncoresModel" (107 : Nat)) "java/lang/String" "value" "[B") (Jvm.Term.int (6 : Int32))) (Jvm.Term.int (115 : Int32)),
 Jvm.Cond.not (Jvm.Cond.eq (Jvm.Term.string "Encores$Tape" (80 : Nat)) (Jvm.Term.string "EncoresModel" (107 : Nat))),
 Jvm.Cond.not (Jvm.Cond.eq (Jvm.Term.string "EncoresModel" (121 : Nat)) (Jvm.Term.string "EncoresModel" (107 : Nat))),
 Jvm.Cond.not (Jvm.Cond.eq (Jvm.Term.string "EncoresModel" (123 : Nat)) (Jvm.Term.string "EncoresModel" (107 : Nat))),
 Jvm.Cond.not (Jvm.Cond.eq (Jvm.Term.string "EncoresModel" (125 : Nat)) (Jvm.Term.string "EncoresModel" (107 : Nat))),
 Jvm.Cond.not (Jvm.Cond.eq (Jvm.Term.string "EncoresModel" (127 : Nat)) (Jvm.Term.string "EncoresModel" (107 : Nat))),
 Jvm.Cond.not (Jvm.Cond.eq (Jvm.Term.string "EncoresModel" (129 : Nat)) (Jvm.Term.string "EncoresModel" (107 : Nat))),
 Jvm.Cond.not (Jvm.Cond.eq (Jvm.Term.string "EncoresModel" (131 : Nat)) (Jvm.Term.string "EncoresModel" (107 : Nat))),
 Jvm.Cond.not (Jvm.Cond.eq (Jvm.Term.string "EncoresModel" (133 : Nat)) (Jvm.Term.string "EncoresModel" (107 : Nat))),
 Jvm.Cond.not (Jvm.Cond.eq (Jvm.Term.string "EncoresModel" (97 : Nat)) (Jvm.Term.string "EncoresModel" (107 : Nat))),
 Jvm.Cond.not (Jvm.Cond.eq (Jvm.Term.string "EncoresModel" (103 : Nat)) (Jvm.Term.string "EncoresModel" (107 : Nat))),
 Jvm.Cond.not (Jvm.Cond.eq (Jvm.Term.string "EncoresModel" (105 : Nat)) (Jvm.Term.string "EncoresModel" (107 : Nat))),
 Jvm.Cond.exactly (Jvm.Term.string "EncoresModel" (109 : Nat)) "java/lang/String",
 Jvm.Cond.eq (Jvm.Term.field (Jvm.Term.string "EncoresModel" (109 : Nat)) "java/lang/String" "coder" "B") (Jvm.Term.int (0 : Int32)),
 Jvm.Cond.arrayOf (Jvm.Term.field (Jvm.Term.string "EncoresModel" (109 : Nat)) "java/lang/String" "value" "[B") Jvm.ClassFile.FieldType.byte,
 Jvm.Cond.eq (Jvm.Term.length (Jvm.Term.field (Jvm.Term.string "EncoresModel" (109 : Nat)) "java/lang/String" "value" "[B")) (Jvm.Term.int (4 : Int32)),
 Jvm.Cond.eq (Jvm.Term.elem (Jvm.Term.field (Jvm.Term.string "EncoresModel" (109 : Nat)) "java/lang/String" "value" "[B") (Jvm.Term.int (0 : Int32))) (Jvm.Term.int (112 : Int32)),
 Jvm.Cond.eq (Jvm.Term.elem (Jvm.Term.field (Jvm.Term.string "EncoresModel" (109 : Nat)) "java/lang/String" "value" "[B") (Jvm.Term.int (1 : Int32))) (Jvm.Term.int (97 : Int32)),
 Jvm.Cond.eq (Jvm.Term.elem (Jvm.Term.field (Jvm.Term.string "EncoresModel" (109 : Nat)) "java/lang/String" "value" "[B") (Jvm.Term.int (2 : Int32))) (Jvm.Term.int (105 : Int32)),
 Jvm.Cond.eq (Jvm.Term.elem (Jvm.Term.field (Jvm.Term.string "EncoresModel" (109 : Nat)) "java/lang/String" "value" "[B") (Jvm.Term.int (3 : Int32))) (Jvm.Term.int (100 : Int32)),
 Jvm.Cond.not (Jvm.Cond.eq (Jvm.Term.string "Encores$Tape" (80 : Nat)) (Jvm.Term.string "EncoresModel" (109 : Nat))),
 Jvm.Cond.not (Jvm.Cond.eq (Jvm.Term.string "EncoresModel" (121 : Nat)) (Jvm.Term.string "EncoresModel" (109 : Nat))),
 Jvm.Cond.not (Jvm.Cond.eq (Jvm.Term.string "EncoresModel" (123 : Nat)) (Jvm.Term.string "EncoresModel" (109 : Nat))),
 Jvm.Cond.not (Jvm.Cond.eq (Jvm.Term.string "EncoresModel" (125 : Nat)) (Jvm.Term.string "EncoresModel" (109 : Nat))),
 Jvm.Cond.not (Jvm.Cond.eq (Jvm.Term.string "EncoresModel" (127 : Nat)) (Jvm.Term.string "EncoresModel" (109 : Nat))),
 Jvm.Cond.not (Jvm.Cond.eq (Jvm.Term.string "EncoresModel" (129 : Nat)) (Jvm.Term.string "EncoresModel" (109 : Nat))),
 Jvm.Cond.not (Jvm.Cond.eq (Jvm.Term.string "EncoresModel" (131 : Nat)) (Jvm.Term.string "EncoresModel" (109 : Nat))),
 Jvm.Cond.not (Jvm.Cond.eq (Jvm.Term.string "EncoresModel" (133 : Nat)) (Jvm.Term.string "EncoresModel" (109 : Nat))),
 Jvm.Cond.not (Jvm.Cond.eq (Jvm.Term.string "EncoresModel" (97 : Nat)) (Jvm.Term.string "EncoresModel" (109 : Nat))),
 Jvm.Cond.not (Jvm.Cond.eq (Jvm.Term.string "EncoresModel" (103 : Nat)) (Jvm.Term.string "EncoresModel" (109 : Nat))),
 Jvm.Cond.not (Jvm.Cond.eq (Jvm.Term.string "EncoresModel" (105 : Nat)) (Jvm.Term.string "EncoresModel" (109 : Nat))),
 Jvm.Cond.not (Jvm.Cond.eq (Jvm.Term.string "EncoresModel" (107 : Nat)) (Jvm.Term.string "EncoresModel" (109 : Nat))),
 Jvm.Cond.exactly (Jvm.Term.string "EncoresModel" (111 : Nat)) "java/lang/String",
 Jvm.Cond.eq (Jvm.Term.field (Jvm.Term.string "EncoresModel" (111 : Nat)) "java/lang/String" "coder" "B") (Jvm.Term.int (0 : Int32)),
 Jvm.Cond.arrayOf (Jvm.Term.field (Jvm.Term.string "EncoresModel" (111 : Nat)) "java/lang/String" "value" "[B") Jvm.ClassFile.FieldType.byte,
 Jvm.Cond.eq (Jvm.Term.length (Jvm.Term.field (Jvm.Term.string "EncoresModel" (111 : Nat)) "java/lang/String" "value" "[B")) (Jvm.Term.int (5 : Int32)),
 Jvm.Cond.eq (Jvm.Term.elem (Jvm.Term.field (Jvm.Term.string "EncoresModel" (111 : Nat)) "java/lang/String" "value" "[B") (Jvm.Term.int (0 : Int32))) (Jvm.Term.int (119 : Int32)),
 Jvm.Cond.eq (Jvm.Term.elem (Jvm.Term.field (Jvm.Term.string "EncoresModel" (111 : Nat)) "java/lang/String" "value" "[B") (Jvm.Term.int (1 : Int32))) (Jvm.Term.int (111 : Int32)),
 Jvm.Cond.eq (Jvm.Term.elem (Jvm.Term.field (Jvm.Term.string "EncoresModel" (111 : Nat)) "java/lang/String" "value" "[B") (Jvm.Term.int (2 : Int32))) (Jvm.Term.int (114 : Int32)),
 Jvm.Cond.eq (Jvm.Term.elem (Jvm.Term.field (Jvm.Term.string "EncoresModel" (111 : Nat)) "java/lang/String" "value" "[B") (Jvm.Term.int (3 : Int32))) (Jvm.Term.int (116 : Int32)),
 Jvm.Cond.eq (Jvm.Term.elem (Jvm.Term.field (Jvm.Term.string "EncoresModel" (111 : Nat)) "java/lang/String" "value" "[B") (Jvm.Term.int (4 : Int32))) (Jvm.Term.int (104 : Int32)),
 Jvm.Cond.not (Jvm.Cond.eq (Jvm.Term.string "Encores$Tape" (80 : Nat)) (Jvm.Term.string "EncoresModel" (111 : Nat))),
 Jvm.Cond.not (Jvm.Cond.eq (Jvm.Term.string "EncoresModel" (121 : Nat)) (Jvm.Term.string "EncoresModel" (111 : Nat))),
 Jvm.Cond.not (Jvm.Cond.eq (Jvm.Term.string "EncoresModel" (123 : Nat)) (Jvm.Term.string "EncoresModel" (111 : Nat))),
 Jvm.Cond.not (Jvm.Cond.eq (Jvm.Term.string "EncoresModel" (125 : Nat)) (Jvm.Term.string "EncoresModel" (111 : Nat))),
 Jvm.Cond.not (Jvm.Cond.eq (Jvm.Term.string "EncoresModel" (127 : Nat)) (Jvm.Term.string "EncoresModel" (111 : Nat))),
 Jvm.Cond.not (Jvm.Cond.eq (Jvm.Term.string "EncoresModel" (129 : Nat)) (Jvm.Term.string "EncoresModel" (111 : Nat))),
 Jvm.Cond.not (Jvm.Cond.eq (Jvm.Term.string "EncoresModel" (131 : Nat)) (Jvm.Term.string "EncoresModel" (111 : Nat))),
 Jvm.Cond.not (Jvm.Cond.eq (Jvm.Term.string "EncoresModel" (133 : Nat)) (Jvm.Term.string "EncoresModel" (111 : Nat))),
 Jvm.Cond.not (Jvm.Cond.eq (Jvm.Term.string "EncoresModel" (97 : Nat)) (Jvm.Term.string "EncoresModel" (111 : Nat))),
 Jvm.Cond.not (Jvm.Cond.eq (Jvm.Term.string "EncoresModel" (103 : Nat)) (Jvm.Term.string "EncoresModel" (111 : Nat))),
 Jvm.Cond.not (Jvm.Cond.eq (Jvm.Term.string "EncoresModel" (105 : Nat)) (Jvm.Term.string "EncoresModel" (111 : Nat))),
 Jvm.Cond.not (Jvm.Cond.eq (Jvm.Term.string "EncoresModel" (107 : Nat)) (Jvm.Term.string "EncoresModel" (111 : Nat))),
 Jvm.Cond.not (Jvm.Cond.eq (Jvm.Term.string "EncoresModel" (109 : Nat)) (Jvm.Term.string "EncoresModel" (111 : Nat))),
 Jvm.Cond.exactly (Jvm.Term.string "EncoresModel" (113 : Nat)) "java/lang/String",
 Jvm.Cond.eq (Jvm.Term.field (Jvm.Term.string "EncoresModel" (113 : Nat)) "java/lang/String" "coder" "B") (Jvm.Term.int (0 : Int32)),
 Jvm.Cond.arrayOf (Jvm.Term.field (Jvm.Term.string "EncoresModel" (113 : Nat)) "java/lang/String" "value" "[B") Jvm.ClassFile.FieldType.byte,
 Jvm.Cond.eq (Jvm.Term.length (Jvm.Term.field (Jvm.Term.string "EncoresModel" (113 : Nat)) "java/lang/String" "value" "[B")) (Jvm.Term.int (4 : Int32)),
 Jvm.Cond.eq (Jvm.Term.elem (Jvm.Term.field (Jvm.Term.string "EncoresModel" (113 : Nat)) "java/lang/String" "value" "[B") (Jvm.Term.int (0 : Int32))) (Jvm.Term.int (119 : Int32)),
 Jvm.Cond.eq (Jvm.Term.elem (Jvm.Term.field (Jvm.Term.string "EncoresModel" (113 : Nat)) "java/lang/String" "value" "[B") (Jvm.Term.int (1 : Int32))) (Jvm.Term.int (101 : Int32)),
 Jvm.Cond.eq (Jvm.Term.elem (Jvm.Term.field (Jvm.Term.string "EncoresModel" (113 : Nat)) "java/lang/String" "value" "[B") (Jvm.Term.int (2 : Int32))) (Jvm.Term.int (97 : Int32)),
 Jvm.Cond.eq (Jvm.Term.elem (Jvm.Term.field (Jvm.Term.string "EncoresModel" (113 : Nat)) "java/lang/String" "value" "[B") (Jvm.Term.int (3 : Int32))) (Jvm.Term.int (114 : Int32)),
 Jvm.Cond.not (Jvm.Cond.eq (Jvm.Term.string "Encores$Tape" (80 : Nat)) (Jvm.Term.string "EncoresModel" (113 : Nat))),
 Jvm.Cond.not (Jvm.Cond.eq (Jvm.Term.string "EncoresModel" (121 : Nat)) (Jvm.Term.string "EncoresModel" (113 : Nat))),
 Jvm.Cond.not (Jvm.Cond.eq (Jvm.Term.string "EncoresModel" (123 : Nat)) (Jvm.Term.string "EncoresModel" (113 : Nat))),
 Jvm.Cond.not (Jvm.Cond.eq (Jvm.Term.string "EncoresModel" (125 : Nat)) (Jvm.Term.string "EncoresModel" (113 : Nat))),
 Jvm.Cond.not (Jvm.Cond.eq (Jvm.Term.string "EncoresModel" (127 : Nat)) (Jvm.Term.string "EncoresModel" (113 : Nat))),
 Jvm.Cond.not (Jvm.Cond.eq (Jvm.Term.string "EncoresModel" (129 : Nat)) (Jvm.Term.string "EncoresModel" (113 : Nat))),
 Jvm.Cond.not (Jvm.Cond.eq (Jvm.Term.string "EncoresModel" (131 : Nat)) (Jvm.Term.string "EncoresModel" (113 : Nat))),
 Jvm.Cond.not (Jvm.Cond.eq (Jvm.Term.string "EncoresModel" (133 : Nat)) (Jvm.Term.string "EncoresModel" (113 : Nat))),
 Jvm.Cond.not (Jvm.Cond.eq (Jvm.Term.string "EncoresModel" (97 : Nat)) (Jvm.Term.string "EncoresModel" (113 : Nat))),
 Jvm.Cond.not (Jvm.Cond.eq (Jvm.Term.string "EncoresModel" (103 : Nat)) (Jvm.Term.string "EncoresModel" (113 : Nat))),
 Jvm.Cond.not (Jvm.Cond.eq (Jvm.Term.string "EncoresModel" (105 : Nat)) (Jvm.Term.string "EncoresModel" (113 : Nat))),
 Jvm.Cond.not (Jvm.Cond.eq (Jvm.Term.string "EncoresModel" (107 : Nat)) (Jvm.Term.string "EncoresModel" (113 : Nat))),
 Jvm.Cond.not (Jvm.Cond.eq (Jvm.Term.string "EncoresModel" (109 : Nat)) (Jvm.Term.string "EncoresModel" (113 : Nat))),
 Jvm.Cond.not (Jvm.Cond.eq (Jvm.Term.string "EncoresModel" (111 : Nat)) (Jvm.Term.string "EncoresModel" (113 : Nat))),
 Jvm.Cond.exactly (Jvm.Term.string "EncoresModel" (115 : Nat)) "java/lang/String",
 Jvm.Cond.eq (Jvm.Term.field (Jvm.Term.string "EncoresModel" (115 : Nat)) "java/lang/String" "coder" "B") (Jvm.Term.int (0 : Int32)),
 Jvm.Cond.arrayOf (Jvm.Term.field (Jvm.Term.string "EncoresModel" (115 : Nat)) "java/lang/String" "value" "[B") Jvm.ClassFile.FieldType.byte,
 Jvm.Cond.eq (Jvm.Term.length (Jvm.Term.field (Jvm.Term.string "EncoresModel" (115 : Nat)) "java/lang/String" "value" "[B")) (Jvm.Term.int (6 : Int32)),
 Jvm.Cond.eq (Jvm.Term.elem (Jvm.Term.field (Jvm.Term.string "EncoresModel" (115 : Nat)) "java/lang/String" "value" "[B") (Jvm.Term.int (0 : Int32))) (Jvm.Term.int (97 : Int32)),
 Jvm.Cond.eq (Jvm.Term.elem (Jvm.Term.field (Jvm.Term.string "EncoresModel" (115 : Nat)) "java/lang/String" "value" "[B") (Jvm.Term.int (1 : Int32))) (Jvm.Term.int (103 : Int32)),
 Jvm.Cond.eq (Jvm.Term.elem (Jvm.Term.field (Jvm.Term.string "EncoresModel" (115 : Nat)) "java/lang/String" "value" "[B") (Jvm.Term.int (2 : Int32))) (Jvm.Term.int (97 : Int32)),
 Jvm.Cond.eq (Jvm.Term.elem (Jvm.Term.field (Jvm.Term.string "EncoresModel" (115 : Nat)) "java/lang/String" "value" "[B") (Jvm.Term.int (3 : Int32))) (Jvm.Term.int (105 : Int32)),
 Jvm.Cond.eq (Jvm.Term.elem (Jvm.Term.field (Jvm.Term.string "EncoresModel" (115 : Nat)) "java/lang/String" "value" "[B") (Jvm.Term.int (4 : Int32))) (Jvm.Term.int (110 : Int32)),
 Jvm.Cond.eq (Jvm.Term.elem (Jvm.Term.field (Jvm.Term.string "EncoresModel" (115 : Nat)) "java/lang/String" "value" "[B") (Jvm.Term.int (5 : Int32))) (Jvm.Term.int (115 : Int32)),
 Jvm.Cond.not (Jvm.Cond.eq (Jvm.Term.string "Encores$Tape" (80 : Nat)) (Jvm.Term.string "EncoresModel" (115 : Nat))),
 Jvm.Cond.not (Jvm.Cond.eq (Jvm.Term.string "EncoresModel" (121 : Nat)) (Jvm.Term.string "EncoresModel" (115 : Nat))),
 Jvm.Cond.not (Jvm.Cond.eq (Jvm.Term.string "EncoresModel" (123 : Nat)) (Jvm.Term.string "EncoresModel" (115 : Nat))),
 Jvm.Cond.not (Jvm.Cond.eq (Jvm.Term.string "EncoresModel" (125 : Nat)) (Jvm.Term.string "EncoresModel" (115 : Nat))),
 Jvm.Cond.not (Jvm.Cond.eq (Jvm.Term.string "EncoresModel" (127 : Nat)) (Jvm.Term.string "EncoresModel" (115 : Nat))),
 Jvm.Cond.not (Jvm.Cond.eq (Jvm.Term.string "EncoresModel" (129 : Nat)) (Jvm.Term.string "EncoresModel" (115 : Nat))),
 Jvm.Cond.not (Jvm.Cond.eq (Jvm.Term.string "EncoresModel" (131 : Nat)) (Jvm.Term.string "EncoresModel" (115 : Nat))),
 Jvm.Cond.not (Jvm.Cond.eq (Jvm.Term.string "EncoresModel" (133 : Nat)) (Jvm.Term.string "EncoresModel" (115 : Nat))),
 Jvm.Cond.not (Jvm.Cond.eq (Jvm.Term.string "EncoresModel" (97 : Nat)) (Jvm.Term.string "EncoresModel" (115 : Nat))),
 Jvm.Cond.not (Jvm.Cond.eq (Jvm.Term.string "EncoresModel" (103 : Nat)) (Jvm.Term.string "EncoresModel" (115 : Nat))),
 Jvm.Cond.not (Jvm.Cond.eq (Jvm.Term.string "EncoresModel" (105 : Nat)) (Jvm.Term.string "EncoresModel" (115 : Nat))),
 Jvm.Cond.not (Jvm.Cond.eq (Jvm.Term.string "EncoresModel" (107 : Nat)) (Jvm.Term.string "EncoresModel" (115 : Nat))),
 Jvm.Cond.not (Jvm.Cond.eq (Jvm.Term.string "EncoresModel" (109 : Nat)) (Jvm.Term.string "EncoresModel" (115 : Nat))),
 Jvm.Cond.not (Jvm.Cond.eq (Jvm.Term.string "EncoresModel" (111 : Nat)) (Jvm.Term.string "EncoresModel" (115 : Nat))),
 Jvm.Cond.not (Jvm.Cond.eq (Jvm.Term.string "EncoresModel" (113 : Nat)) (Jvm.Term.string "EncoresModel" (115 : Nat))),
 Jvm.Cond.exactly (Jvm.Term.string "EncoresModel" (117 : Nat)) "java/lang/String",
 Jvm.Cond.eq (Jvm.Term.field (Jvm.Term.string "EncoresModel" (117 : Nat)) "java/lang/String" "coder" "B") (Jvm.Term.int (0 : Int32)),
 Jvm.Cond.arrayOf (Jvm.Term.field (Jvm.Term.string "EncoresModel" (117 : Nat)) "java/lang/String" "value" "[B") Jvm.ClassFile.FieldType.byte,
 Jvm.Cond.eq (Jvm.Term.length (Jvm.Term.field (Jvm.Term.string "EncoresModel" (117 : Nat)) "java/lang/String" "value" "[B")) (Jvm.Term.int (6 : Int32)),
 Jvm.Cond.eq (Jvm.Term.elem (Jvm.Term.field (Jvm.Term.string "EncoresModel" (117 : Nat)) "java/lang/String" "value" "[B") (Jvm.Term.int (0 : Int32))) (Jvm.Term.int (98 : Int32)),
 Jvm.Cond.eq (Jvm.Term.elem (Jvm.Term.field (Jvm.Term.string "EncoresModel" (117 : Nat)) "java/lang/String" "value" "[B") (Jvm.Term.int (1 : Int32))) (Jvm.Term.int (101 : Int32)),
 Jvm.Cond.eq (Jvm.Term.elem (Jvm.Term.field (Jvm.Term.string "EncoresModel" (117 : Nat)) "java/lang/String" "value" "[B") (Jvm.Term.int (2 : Int32))) (Jvm.Term.int (115 : Int32)),
 Jvm.Cond.eq (Jvm.Term.elem (Jvm.Term.field (Jvm.Term.string "EncoresModel" (117 : Nat)) "java/lang/String" "value" "[B") (Jvm.Term.int (3 : Int32))) (Jvm.Term.int (105 : Int32)),
 Jvm.Cond.eq (Jvm.Term.elem (Jvm.Term.field (Jvm.Term.string "EncoresModel" (117 : Nat)) "java/lang/String" "value" "[B") (Jvm.Term.int (4 : Int32))) (Jvm.Term.int (100 : Int32)),
 Jvm.Cond.eq (Jvm.Term.elem (Jvm.Term.field (Jvm.Term.string "EncoresModel" (117 : Nat)) "java/lang/String" "value" "[B") (Jvm.Term.int (5 : Int32))) (Jvm.Term.int (101 : Int32)),
 Jvm.Cond.not (Jvm.Cond.eq (Jvm.Term.string "Encores$Tape" (80 : Nat)) (Jvm.Term.string "EncoresModel" (117 : Nat))),
 Jvm.Cond.not (Jvm.Cond.eq (Jvm.Term.string "EncoresModel" (121 : Nat)) (Jvm.Term.string "EncoresModel" (117 : Nat))),
 Jvm.Cond.not (Jvm.Cond.eq (Jvm.Term.string "EncoresModel" (123 : Nat)) (Jvm.Term.string "EncoresModel" (117 : Nat))),
 Jvm.Cond.not (Jvm.Cond.eq (Jvm.Term.string "EncoresModel" (125 : Nat)) (Jvm.Term.string "EncoresModel" (117 : Nat))),
 Jvm.Cond.not (Jvm.Cond.eq (Jvm.Term.string "EncoresModel" (127 : Nat)) (Jvm.Term.string "EncoresModel" (117 : Nat))),
 Jvm.Cond.not (Jvm.Cond.eq (Jvm.Term.string "EncoresModel" (129 : Nat)) (Jvm.Term.string "EncoresModel" (117 : Nat))),
 Jvm.Cond.not (Jvm.Cond.eq (Jvm.Term.string "EncoresModel" (131 : Nat)) (Jvm.Term.string "EncoresModel" (117 : Nat))),
 Jvm.Cond.not (Jvm.Cond.eq (Jvm.Term.string "EncoresModel" (133 : Nat)) (Jvm.Term.string "EncoresModel" (117 : Nat))),
 Jvm.Cond.not (Jvm.Cond.eq (Jvm.Term.string "EncoresModel" (97 : Nat)) (Jvm.Term.string "EncoresModel" (117 : Nat))),
 Jvm.Cond.not (Jvm.Cond.eq (Jvm.Term.string "EncoresModel" (103 : Nat)) (Jvm.Term.string "EncoresModel" (117 : Nat))),
 Jvm.Cond.not (Jvm.Cond.eq (Jvm.Term.string "EncoresModel" (105 : Nat)) (Jvm.Term.string "EncoresModel" (117 : Nat))),
 Jvm.Cond.not (Jvm.Cond.eq (Jvm.Term.string "EncoresModel" (107 : Nat)) (Jvm.Term.string "EncoresModel" (117 : Nat))),
 Jvm.Cond.not (Jvm.Cond.eq (Jvm.Term.string "EncoresModel" (109 : Nat)) (Jvm.Term.string "EncoresModel" (117 : Nat))),
 Jvm.Cond.not (Jvm.Cond.eq (Jvm.Term.string "EncoresModel" (111 : Nat)) (Jvm.Term.string "EncoresModel" (117 : Nat))),
 Jvm.Cond.not (Jvm.Cond.eq (Jvm.Term.string "EncoresModel" (113 : Nat)) (Jvm.Term.string "EncoresModel" (117 : Nat))),
 Jvm.Cond.not (Jvm.Cond.eq (Jvm.Term.string "EncoresModel" (115 : Nat)) (Jvm.Term.string "EncoresModel" (117 : Nat))),
 Jvm.Cond.exactly (Jvm.Term.string "EncoresModel" (119 : Nat)) "java/lang/String",
 Jvm.Cond.eq (Jvm.Term.field (Jvm.Term.string "EncoresModel" (119 : Nat)) "java/lang/String" "coder" "B") (Jvm.Term.int (0 : Int32)),
 Jvm.Cond.arrayOf (Jvm.Term.field (Jvm.Term.string "EncoresModel" (119 : Nat)) "java/lang/String" "value" "[B") Jvm.ClassFile.FieldType.byte,
 Jvm.Cond.eq (Jvm.Term.length (Jvm.Term.field (Jvm.Term.string "EncoresModel" (119 : Nat)) "java/lang/String" "value" "[B")) (Jvm.Term.int (4 : Int32)),
 Jvm.Cond.eq (Jvm.Term.elem (Jvm.Term.field (Jvm.Term.string "EncoresModel" (119 : Nat)) "java/lang/String" "value" "[B") (Jvm.Term.int (0 : Int32))) (Jvm.Term.int (108 : Int32)),
 Jvm.Cond.eq (Jvm.Term.elem (Jvm.Term.field (Jvm.Term.string "EncoresModel" (119 : Nat)) "java/lang/String" "value" "[B") (Jvm.Term.int (1 : Int32))) (Jvm.Term.int (97 : Int32)),
 Jvm.Cond.eq (Jvm.Term.elem (Jvm.Term.field (Jvm.Term.string "EncoresModel" (119 : Nat)) "java/lang/String" "value" "[B") (Jvm.Term.int (2 : Int32))) (Jvm.Term.int (116 : Int32)),
 Jvm.Cond.eq (Jvm.Term.elem (Jvm.Term.field (Jvm.Term.string "EncoresModel" (119 : Nat)) "java/lang/String" "value" "[B") (Jvm.Term.int (3 : Int32))) (Jvm.Term.int (101 : Int32)),
 Jvm.Cond.not (Jvm.Cond.eq (Jvm.Term.string "Encores$Tape" (80 : Nat)) (Jvm.Term.string "EncoresModel" (119 : Nat))),
 Jvm.Cond.not (Jvm.Cond.eq (Jvm.Term.string "EncoresModel" (121 : Nat)) (Jvm.Term.string "EncoresModel" (119 : Nat))),
 Jvm.Cond.not (Jvm.Cond.eq (Jvm.Term.string "EncoresModel" (123 : Nat)) (Jvm.Term.string "EncoresModel" (119 : Nat))),
 Jvm.Cond.not (Jvm.Cond.eq (Jvm.Term.string "EncoresModel" (125 : Nat)) (Jvm.Term.string "EncoresModel" (119 : Nat))),
 Jvm.Cond.not (Jvm.Cond.eq (Jvm.Term.string "EncoresModel" (127 : Nat)) (Jvm.Term.string "EncoresModel" (119 : Nat))),
 Jvm.Cond.not (Jvm.Cond.eq (Jvm.Term.string "EncoresModel" (129 : Nat)) (Jvm.Term.string "EncoresModel" (119 : Nat))),
 Jvm.Cond.not (Jvm.Cond.eq (Jvm.Term.string "EncoresModel" (131 : Nat)) (Jvm.Term.string "EncoresModel" (119 : Nat))),
 Jvm.Cond.not (Jvm.Cond.eq (Jvm.Term.string "EncoresModel" (133 : Nat)) (Jvm.Term.string "EncoresModel" (119 : Nat))),
 Jvm.Cond.not (Jvm.Cond.eq (Jvm.Term.string "EncoresModel" (97 : Nat)) (Jvm.Term.string "EncoresModel" (119 : Nat))),
 Jvm.Cond.not (Jvm.Cond.eq (Jvm.Term.string "EncoresModel" (103 : Nat)) (Jvm.Term.string "EncoresModel" (119 : Nat))),
 Jvm.Cond.not (Jvm.Cond.eq (Jvm.Term.string "EncoresModel" (105 : Nat)) (Jvm.Term.string "EncoresModel" (119 : Nat))),
 Jvm.Cond.not (Jvm.Cond.eq (Jvm.Term.string "EncoresModel" (107 : Nat)) (Jvm.Term.string "EncoresModel" (119 : Nat))),
 Jvm.Cond.not (Jvm.Cond.eq (Jvm.Term.string "EncoresModel" (109 : Nat)) (Jvm.Term.string "EncoresModel" (119 : Nat))),
 Jvm.Cond.not (Jvm.Cond.eq (Jvm.Term.string "EncoresModel" (111 : Nat)) (Jvm.Term.string "EncoresModel" (119 : Nat))),
 Jvm.Cond.not (Jvm.Cond.eq (Jvm.Term.string "EncoresModel" (113 : Nat)) (Jvm.Term.string "EncoresModel" (119 : Nat))),
 Jvm.Cond.not (Jvm.Cond.eq (Jvm.Term.string "EncoresModel" (115 : Nat)) (Jvm.Term.string "EncoresModel" (119 : Nat))),
 Jvm.Cond.not (Jvm.Cond.eq (Jvm.Term.string "EncoresModel" (117 : Nat)) (Jvm.Term.string "EncoresModel" (119 : Nat))),
 Jvm.Cond.exactly (Jvm.Term.string "EncoresModel" (138 : Nat)) "java/lang/String",
 Jvm.Cond.eq (Jvm.Term.field (Jvm.Term.string "EncoresModel" (138 : Nat)) "java/lang/String" "coder" "B") (Jvm.Term.int (0 : Int32)),
 Jvm.Cond.arrayOf (Jvm.Term.field (Jvm.Term.string "EncoresModel" (138 : Nat)) "java/lang/String" "value" "[B") Jvm.ClassFile.FieldType.byte,
 Jvm.Cond.eq (Jvm.Term.length (Jvm.Term.field (Jvm.Term.string "EncoresModel" (138 : Nat)) "java/lang/String" "value" "[B")) (Jvm.Term.int (4 : Int32)),
 Jvm.Cond.eq (Jvm.Term.elem (Jvm.Term.field (Jvm.Term.string "EncoresModel" (138 : Nat)) "java/lang/String" "value" "[B") (Jvm.Term.int (0 : Int32))) (Jvm.Term.int (109 : Int32)),
 Jvm.Cond.eq (Jvm.Term.elem (Jvm.Term.field (Jvm.Term.string "EncoresModel" (138 : Nat)) "java/lang/String" "value" "[B") (Jvm.Term.int (1 : Int32))) (Jvm.Term.int (111 : Int32)),
 Jvm.Cond.eq (Jvm.Term.elem (Jvm.Term.field (Jvm.Term.string "EncoresModel" (138 : Nat)) "java/lang/String" "value" "[B") (Jvm.Term.int (2 : Int32))) (Jvm.Term.int (115 : Int32)),
 Jvm.Cond.eq (Jvm.Term.elem (Jvm.Term.field (Jvm.Term.string "EncoresModel" (138 : Nat)) "java/lang/String" "value" "[B") (Jvm.Term.int (3 : Int32))) (Jvm.Term.int (116 : Int32)),
 Jvm.Cond.not (Jvm.Cond.eq (Jvm.Term.string "Encores$Tape" (80 : Nat)) (Jvm.Term.string "EncoresModel" (138 : Nat))),
 Jvm.Cond.not (Jvm.Cond.eq (Jvm.Term.string "EncoresModel" (121 : Nat)) (Jvm.Term.string "EncoresModel" (138 : Nat))),
 Jvm.Cond.not (Jvm.Cond.eq (Jvm.Term.string "EncoresModel" (123 : Nat)) (Jvm.Term.string "EncoresModel" (138 : Nat))),
 Jvm.Cond.not (Jvm.Cond.eq (Jvm.Term.string "EncoresModel" (125 : Nat)) (Jvm.Term.string "EncoresModel" (138 : Nat))),
 Jvm.Cond.not (Jvm.Cond.eq (Jvm.Term.string "EncoresModel" (127 : Nat)) (Jvm.Term.string "EncoresModel" (138 : Nat))),
 Jvm.Cond.not (Jvm.Cond.eq (Jvm.Term.string "EncoresModel" (129 : Nat)) (Jvm.Term.string "EncoresModel" (138 : Nat))),
 Jvm.Cond.not (Jvm.Cond.eq (Jvm.Term.string "EncoresModel" (131 : Nat)) (Jvm.Term.string "EncoresModel" (138 : Nat))),
 Jvm.Cond.not (Jvm.Cond.eq (Jvm.Term.string "EncoresModel" (133 : Nat)) (Jvm.Term.string "EncoresModel" (138 : Nat))),
 Jvm.Cond.not (Jvm.Cond.eq (Jvm.Term.string "EncoresModel" (97 : Nat)) (Jvm.Term.string "EncoresModel" (138 : Nat))),
 Jvm.Cond.not (Jvm.Cond.eq (Jvm.Term.string "EncoresModel" (103 : Nat)) (Jvm.Term.string "EncoresModel" (138 : Nat))),
 Jvm.Cond.not (Jvm.Cond.eq (Jvm.Term.string "EncoresModel" (105 : Nat)) (Jvm.Term.string "EncoresModel" (138 : Nat))),
 Jvm.Cond.not (Jvm.Cond.eq (Jvm.Term.string "EncoresModel" (107 : Nat)) (Jvm.Term.string "EncoresModel" (138 : Nat))),
 Jvm.Cond.not (Jvm.Cond.eq (Jvm.Term.string "EncoresModel" (109 : Nat)) (Jvm.Term.string "EncoresModel" (138 : Nat))),
 Jvm.Cond.not (Jvm.Cond.eq (Jvm.Term.string "EncoresModel" (111 : Nat)) (Jvm.Term.string "EncoresModel" (138 : Nat))),
 Jvm.Cond.not (Jvm.Cond.eq (Jvm.Term.string "EncoresModel" (113 : Nat)) (Jvm.Term.string "EncoresModel" (138 : Nat))),
 Jvm.Cond.not (Jvm.Cond.eq (Jvm.Term.string "EncoresModel" (115 : Nat)) (Jvm.Term.string "EncoresModel" (138 : Nat))),
 Jvm.Cond.not (Jvm.Cond.eq (Jvm.Term.string "EncoresModel" (117 : Nat)) (Jvm.Term.string "EncoresModel" (138 : Nat))),
 Jvm.Cond.not (Jvm.Cond.eq (Jvm.Term.string "EncoresModel" (119 : Nat)) (Jvm.Term.string "EncoresModel" (138 : Nat))),
 Jvm.Cond.exactly (Jvm.Term.string "EncoresModel" (140 : Nat)) "java/lang/String",
 Jvm.Cond.eq (Jvm.Term.field (Jvm.Term.string "EncoresModel" (140 : Nat)) "java/lang/String" "coder" "B") (Jvm.Term.int (0 : Int32)),
 Jvm.Cond.arrayOf (Jvm.Term.field (Jvm.Term.string "EncoresModel" (140 : Nat)) "java/lang/String" "value" "[B") Jvm.ClassFile.FieldType.byte,
 Jvm.Cond.eq (Jvm.Term.length (Jvm.Term.field (Jvm.Term.string "EncoresModel" (140 : Nat)) "java/lang/String" "value" "[B")) (Jvm.Term.int (6 : Int32)),
 Jvm.Cond.eq (Jvm.Term.elem (Jvm.Term.field (Jvm.Term.string "EncoresModel" (140 : Nat)) "java/lang/String" "value" "[B") (Jvm.Term.int (0 : Int32))) (Jvm.Term.int (100 : Int32)),
 Jvm.Cond.eq (Jvm.Term.elem (Jvm.Term.field (Jvm.Term.string "EncoresModel" (140 : Nat)) "java/lang/String" "value" "[B") (Jvm.Term.int (1 : Int32))) (Jvm.Term.int (111 : Int32)),
 Jvm.Cond.eq (Jvm.Term.elem (Jvm.Term.field (Jvm.Term.string "EncoresModel" (140 : Nat)) "java/lang/String" "value" "[B") (Jvm.Term.int (2 : Int32))) (Jvm.Term.int (117 : Int32)),
 Jvm.Cond.eq (Jvm.Term.elem (Jvm.Term.field (Jvm.Term.string "EncoresModel" (140 : Nat)) "java/lang/String" "value" "[B") (Jvm.Term.int (3 : Int32))) (Jvm.Term.int (98 : Int32)),
 Jvm.Cond.eq (Jvm.Term.elem (Jvm.Term.field (Jvm.Term.string "EncoresModel" (140 : Nat)) "java/lang/String" "value" "[B") (Jvm.Term.int (4 : Int32))) (Jvm.Term.int (108 : Int32)),
 Jvm.Cond.eq (Jvm.Term.elem (Jvm.Term.field (Jvm.Term.string "EncoresModel" (140 : Nat)) "java/lang/String" "value" "[B") (Jvm.Term.int (5 : Int32))) (Jvm.Term.int (101 : Int32)),
 Jvm.Cond.not (Jvm.Cond.eq (Jvm.Term.string "Encores$Tape" (80 : Nat)) (Jvm.Term.string "EncoresModel" (140 : Nat))),
 Jvm.Cond.not (Jvm.Cond.eq (Jvm.Term.string "EncoresModel" (121 : Nat)) (Jvm.Term.string "EncoresModel" (140 : Nat))),
 Jvm.Cond.not (Jvm.Cond.eq (Jvm.Term.string "EncoresModel" (123 : Nat)) (Jvm.Term.string "EncoresModel" (140 : Nat))),
 Jvm.Cond.not (Jvm.Cond.eq (Jvm.Term.string "EncoresModel" (125 : Nat)) (Jvm.Term.string "EncoresModel" (140 : Nat))),
 Jvm.Cond.not (Jvm.Cond.eq (Jvm.Term.string "EncoresModel" (127 : Nat)) (Jvm.Term.string "EncoresModel" (140 : Nat))),
 Jvm.Cond.not (Jvm.Cond.eq (Jvm.Term.string "EncoresModel" (129 : Nat)) (Jvm.Term.string "EncoresModel" (140 : Nat))),
 Jvm.Cond.not (Jvm.Cond.eq (Jvm.Term.string "EncoresModel" (131 : Nat)) (Jvm.Term.string "EncoresModel" (140 : Nat))),
 Jvm.Cond.not (Jvm.Cond.eq (Jvm.Term.string "EncoresModel" (133 : Nat)) (Jvm.Term.string "EncoresModel" (140 : Nat))),
 Jvm.Cond.not (Jvm.Cond.eq (Jvm.Term.string "EncoresModel" (97 : Nat)) (Jvm.Term.string "EncoresModel" (140 : Nat))),
 Jvm.Cond.not (Jvm.Cond.eq (Jvm.Term.string "EncoresModel" (103 : Nat)) (Jvm.Term.string "EncoresModel" (140 : Nat))),
 Jvm.Cond.not (Jvm.Cond.eq (Jvm.Term.string "EncoresModel" (105 : Nat)) (Jvm.Term.string "EncoresModel" (140 : Nat))),
 Jvm.Cond.not (Jvm.Cond.eq (Jvm.Term.string "EncoresModel" (107 : Nat)) (Jvm.Term.string "EncoresModel" (140 : Nat))),
 Jvm.Cond.not (Jvm.Cond.eq (Jvm.Term.string "EncoresModel" (109 : Nat)) (Jvm.Term.string "EncoresModel" (140 : Nat))),
 Jvm.Cond.not (Jvm.Cond.eq (Jvm.Term.string "EncoresModel" (111 : Nat)) (Jvm.Term.string "EncoresModel" (140 : Nat))),
 Jvm.Cond.not (Jvm.Cond.eq (Jvm.Term.string "EncoresModel" (113 : Nat)) (Jvm.Term.string "EncoresModel" (140 : Nat))),
 Jvm.Cond.not (Jvm.Cond.eq (Jvm.Term.string "EncoresModel" (115 : Nat)) (Jvm.Term.string "EncoresModel" (140 : Nat))),
 Jvm.Cond.not (Jvm.Cond.eq (Jvm.Term.string "EncoresModel" (117 : Nat)) (Jvm.Term.string "EncoresModel" (140 : Nat))),
 Jvm.Cond.not (Jvm.Cond.eq (Jvm.Term.string "EncoresModel" (119 : Nat)) (Jvm.Term.string "EncoresModel" (140 : Nat))),
 Jvm.Cond.not (Jvm.Cond.eq (Jvm.Term.string "EncoresModel" (138 : Nat)) (Jvm.Term.string "EncoresModel" (140 : Nat))),
 Jvm.Cond.exactly (Jvm.Term.string "EncoresModel" (142 : Nat)) "java/lang/String",
 Jvm.Cond.eq (Jvm.Term.field (Jvm.Term.string "EncoresModel" (142 : Nat)) "java/lang/String" "coder" "B") (Jvm.Term.int (0 : Int32)),
 Jvm.Cond.arrayOf (Jvm.Term.field (Jvm.Term.string "EncoresModel" (142 : Nat)) "java/lang/String" "value" "[B") Jvm.ClassFile.FieldType.byte,
 Jvm.Cond.eq (Jvm.Term.length (Jvm.Term.field (Jvm.Term.string "EncoresModel" (142 : Nat)) "java/lang/String" "value" "[B")) (Jvm.Term.int (3 : Int32)),
 Jvm.Cond.eq (Jvm.Term.elem (Jvm.Term.field (Jvm.Term.string "EncoresModel" (142 : Nat)) "java/lang/String" "value" "[B") (Jvm.Term.int (0 : Int32))) (Jvm.Term.int (101 : Int32)),
 Jvm.Cond.eq (Jvm.Term.elem (Jvm.Term.field (Jvm.Term.string "EncoresModel" (142 : Nat)) "java/lang/String" "value" "[B") (Jvm.Term.int (1 : Int32))) (Jvm.Term.int (110 : Int32)),
 Jvm.Cond.eq (Jvm.Term.elem (Jvm.Term.field (Jvm.Term.string "EncoresModel" (142 : Nat)) "java/lang/String" "value" "[B") (Jvm.Term.int (2 : Int32))) (Jvm.Term.int (100 : Int32)),
 Jvm.Cond.not (Jvm.Cond.eq (Jvm.Term.string "Encores$Tape" (80 : Nat)) (Jvm.Term.string "EncoresModel" (142 : Nat))),
 Jvm.Cond.not (Jvm.Cond.eq (Jvm.Term.string "EncoresModel" (121 : Nat)) (Jvm.Term.string "EncoresModel" (142 : Nat))),
 Jvm.Cond.not (Jvm.Cond.eq (Jvm.Term.string "EncoresModel" (123 : Nat)) (Jvm.Term.string "EncoresModel" (142 : Nat))),
 Jvm.Cond.not (Jvm.Cond.eq (Jvm.Term.string "EncoresModel" (125 : Nat)) (Jvm.Term.string "EncoresModel" (142 : Nat))),
 Jvm.Cond.not (Jvm.Cond.eq (Jvm.Term.string "EncoresModel" (127 : Nat)) (Jvm.Term.string "EncoresModel" (142 : Nat))),
 Jvm.Cond.not (Jvm.Cond.eq (Jvm.Term.string "EncoresModel" (129 : Nat)) (Jvm.Term.string "EncoresModel" (142 : Nat))),
 Jvm.Cond.not (Jvm.Cond.eq (Jvm.Term.string "EncoresModel" (131 : Nat)) (Jvm.Term.string "EncoresModel" (142 : Nat))),
 Jvm.Cond.not (Jvm.Cond.eq (Jvm.Term.string "EncoresModel" (133 : Nat)) (Jvm.Term.string "EncoresModel" (142 : Nat))),
 Jvm.Cond.not (Jvm.Cond.eq (Jvm.Term.string "EncoresModel" (97 : Nat)) (Jvm.Term.string "EncoresModel" (142 : Nat))),
 Jvm.Cond.not (Jvm.Cond.eq (Jvm.Term.string "EncoresModel" (103 : Nat)) (Jvm.Term.string "EncoresModel" (142 : Nat))),
 Jvm.Cond.not (Jvm.Cond.eq (Jvm.Term.string "EncoresModel" (105 : Nat)) (Jvm.Term.string "EncoresModel" (142 : Nat))),
 Jvm.Cond.not (Jvm.Cond.eq (Jvm.Term.string "EncoresModel" (107 : Nat)) (Jvm.Term.string "EncoresModel" (142 : Nat))),
 Jvm.Cond.not (Jvm.Cond.eq (Jvm.Term.string "EncoresModel" (109 : Nat)) (Jvm.Term.string "EncoresModel" (142 : Nat))),
 Jvm.Cond.not (Jvm.Cond.eq (Jvm.Term.string "EncoresModel" (111 : Nat)) (Jvm.Term.string "EncoresModel" (142 : Nat))),
 Jvm.Cond.not (Jvm.Cond.eq (Jvm.Term.string "EncoresModel" (113 : Nat)) (Jvm.Term.string "EncoresModel" (142 : Nat))),
 Jvm.Cond.not (Jvm.Cond.eq (Jvm.Term.string "EncoresModel" (115 : Nat)) (Jvm.Term.string "EncoresModel" (142 : Nat))),
 Jvm.Cond.not (Jvm.Cond.eq (Jvm.Term.string "EncoresModel" (117 : Nat)) (Jvm.Term.string "EncoresModel" (142 : Nat))),
 Jvm.Cond.not (Jvm.Cond.eq (Jvm.Term.string "EncoresModel" (119 : Nat)) (Jvm.Term.string "EncoresModel" (142 : Nat))),
 Jvm.Cond.not (Jvm.Cond.eq (Jvm.Term.string "EncoresModel" (138 : Nat)) (Jvm.Term.string "EncoresModel" (142 : Nat))),
 Jvm.Cond.not (Jvm.Cond.eq (Jvm.Term.string "EncoresModel" (140 : Nat)) (Jvm.Term.string "EncoresModel" (142 : Nat))),
 Jvm.Cond.exactly (Jvm.Term.string "EncoresModel" (144 : Nat)) "java/lang/String",
 Jvm.Cond.eq (Jvm.Term.field (Jvm.Term.string "EncoresModel" (144 : Nat)) "java/lang/String" "coder" "B") (Jvm.Term.int (0 : Int32)),
 Jvm.Cond.arrayOf (Jvm.Term.field (Jvm.Term.string "EncoresModel" (144 : Nat)) "java/lang/String" "value" "[B") Jvm.ClassFile.FieldType.byte,
 Jvm.Cond.eq (Jvm.Term.length (Jvm.Term.field (Jvm.Term.string "EncoresModel" (144 : Nat)) "java/lang/String" "value" "[B")) (Jvm.Term.int (4 : Int32)),
 Jvm.Cond.eq (Jvm.Term.elem (Jvm.Term.field (Jvm.Term.string "EncoresModel" (144 : Nat)) "java/lang/String" "value" "[B") (Jvm.Term.int (0 : Int32))) (Jvm.Term.int (102 : Int32)),
 Jvm.Cond.eq (Jvm.Term.elem (Jvm.Term.field (Jvm.Term.string "EncoresModel" (144 : Nat)) "java/lang/String" "value" "[B") (Jvm.Term.int (1 : Int32))) (Jvm.Term.int (114 : Int32)),
 Jvm.Cond.eq (Jvm.Term.elem (Jvm.Term.field (Jvm.Term.string "EncoresModel" (144 : Nat)) "java/lang/String" "value" "[B") (Jvm.Term.int (2 : Int32))) (Jvm.Term.int (111 : Int32)),
 Jvm.Cond.eq (Jvm.Term.elem (Jvm.Term.field (Jvm.Term.string "EncoresModel" (144 : Nat)) "java/lang/String" "value" "[B") (Jvm.Term.int (3 : Int32))) (Jvm.Term.int (109 : Int32)),
 Jvm.Cond.not (Jvm.Cond.eq (Jvm.Term.string "Encores$Tape" (80 : Nat)) (Jvm.Term.string "EncoresModel" (144 : Nat))),
 Jvm.Cond.not (Jvm.Cond.eq (Jvm.Term.string "EncoresModel" (121 : Nat)) (Jvm.Term.string "EncoresModel" (144 : Nat))),
 Jvm.Cond.not (Jvm.Cond.eq (Jvm.Term.string "EncoresModel" (123 : Nat)) (Jvm.Term.string "EncoresModel" (144 : Nat))),
 Jvm.Cond.not (Jvm.Cond.eq (Jvm.Term.string "EncoresModel" (125 : Nat)) (Jvm.Term.string "EncoresModel" (144 : Nat))),
 Jvm.Cond.not (Jvm.Cond.eq (Jvm.Term.string "EncoresModel" (127 : Nat)) (Jvm.Term.string "EncoresModel" (144 : Nat))),
 Jvm.Cond.not (Jvm.Cond.eq (Jvm.Term.string "EncoresModel" (129 : Nat)) (Jvm.Term.string "EncoresModel" (144 : Nat))),
 Jvm.Cond.not (Jvm.Cond.eq (Jvm.Term.string "EncoresModel" (131 : Nat)) (Jvm.Term.string "EncoresModel" (144 : Nat))),
 Jvm.Cond.not (Jvm.Cond.eq (Jvm.Term.string "EncoresModel" (133 : Nat)) (Jvm.Term.string "EncoresModel" (144 : Nat))),
 Jvm.Cond.not (Jvm.Cond.eq (Jvm.Term.string "EncoresModel" (97 : Nat)) (Jvm.Term.string "EncoresModel" (144 : Nat))),
 Jvm.Cond.not (Jvm.Cond.eq (Jvm.Term.string "EncoresModel" (103 : Nat)) (Jvm.Term.string "EncoresModel" (144 : Nat))),
 Jvm.Cond.not (Jvm.Cond.eq (Jvm.Term.string "EncoresModel" (105 : Nat)) (Jvm.Term.string "EncoresModel" (144 : Nat))),
 Jvm.Cond.not (Jvm.Cond.eq (Jvm.Term.string "EncoresModel" (107 : Nat)) (Jvm.Term.string "EncoresModel" (144 : Nat))),
 Jvm.Cond.not (Jvm.Cond.eq (Jvm.Term.string "EncoresModel" (109 : Nat)) (Jvm.Term.string "EncoresModel" (144 : Nat))),
 Jvm.Cond.not (Jvm.Cond.eq (Jvm.Term.string "EncoresModel" (111 : Nat)) (Jvm.Term.string "EncoresModel" (144 : Nat))),
 Jvm.Cond.not (Jvm.Cond.eq (Jvm.Term.string "EncoresModel" (113 : Nat)) (Jvm.Term.string "EncoresModel" (144 : Nat))),
 Jvm.Cond.not (Jvm.Cond.eq (Jvm.Term.string "EncoresModel" (115 : Nat)) (Jvm.Term.string "EncoresModel" (144 : Nat))),
 Jvm.Cond.not (Jvm.Cond.eq (Jvm.Term.string "EncoresModel" (117 : Nat)) (Jvm.Term.string "EncoresModel" (144 : Nat))),
 Jvm.Cond.not (Jvm.Cond.eq (Jvm.Term.string "EncoresModel" (119 : Nat)) (Jvm.Term.string "EncoresModel" (144 : Nat))),
 Jvm.Cond.not (Jvm.Cond.eq (Jvm.Term.string "EncoresModel" (138 : Nat)) (Jvm.Term.string "EncoresModel" (144 : Nat))),
 Jvm.Cond.not (Jvm.Cond.eq (Jvm.Term.string "EncoresModel" (140 : Nat)) (Jvm.Term.string "EncoresModel" (144 : Nat))),
 Jvm.Cond.not (Jvm.Cond.eq (Jvm.Term.string "EncoresModel" (142 : Nat)) (Jvm.Term.string "EncoresModel" (144 : Nat))),
 Jvm.Cond.exactly (Jvm.Term.string "EncoresModel" (155 : Nat)) "java/lang/String",
 Jvm.Cond.eq (Jvm.Term.field (Jvm.Term.string "EncoresModel" (155 : Nat)) "java/lang/String" "coder" "B") (Jvm.Term.int (0 : Int32)),
 Jvm.Cond.arrayOf (Jvm.Term.field (Jvm.Term.string "EncoresModel" (155 : Nat)) "java/lang/String" "value" "[B") Jvm.ClassFile.FieldType.byte,
 Jvm.Cond.eq (Jvm.Term.length (Jvm.Term.field (Jvm.Term.string "EncoresModel" (155 : Nat)) "java/lang/String" "value" "[B")) (Jvm.Term.int (2 : Int32)),
 Jvm.Cond.eq (Jvm.Term.elem (Jvm.Term.field (Jvm.Term.string "EncoresModel" (155 : Nat)) "java/lang/String" "value" "[B") (Jvm.Term.int (0 : Int32))) (Jvm.Term.int (97 : Int32)),
 Jvm.Cond.eq (Jvm.Term.elem (Jvm.Term.field (Jvm.Term.string "EncoresModel" (155 : Nat)) "java/lang/String" "value" "[B") (Jvm.Term.int (1 : Int32))) (Jvm.Term.int (116 : Int32)),
 Jvm.Cond.not (Jvm.Cond.eq (Jvm.Term.string "Encores$Tape" (80 : Nat)) (Jvm.Term.string "EncoresModel" (155 : Nat))),
 Jvm.Cond.not (Jvm.Cond.eq (Jvm.Term.string "EncoresModel" (121 : Nat)) (Jvm.Term.string "EncoresModel" (155 : Nat))),
 Jvm.Cond.not (Jvm.Cond.eq (Jvm.Term.string "EncoresModel" (123 : Nat)) (Jvm.Term.string "EncoresModel" (155 : Nat))),
 Jvm.Cond.not (Jvm.Cond.eq (Jvm.Term.string "EncoresModel" (125 : Nat)) (Jvm.Term.string "EncoresModel" (155 : Nat))),
 Jvm.Cond.not (Jvm.Cond.eq (Jvm.Term.string "EncoresModel" (127 : Nat)) (Jvm.Term.string "EncoresModel" (155 : Nat))),
 Jvm.Cond.not (Jvm.Cond.eq (Jvm.Term.string "EncoresModel" (129 : Nat)) (Jvm.Term.string "EncoresModel" (155 : Nat))),
 Jvm.Cond.not (Jvm.Cond.eq (Jvm.Term.string "EncoresModel" (131 : Nat)) (Jvm.Term.string "EncoresModel" (155 : Nat))),
 Jvm.Cond.not (Jvm.Cond.eq (Jvm.Term.string "EncoresModel" (133 : Nat)) (Jvm.Term.string "EncoresModel" (155 : Nat))),
 Jvm.Cond.not (Jvm.Cond.eq (Jvm.Term.string "EncoresModel" (97 : Nat)) (Jvm.Term.string "EncoresModel" (155 : Nat))),
 Jvm.Cond.not (Jvm.Cond.eq (Jvm.Term.string "EncoresModel" (103 : Nat)) (Jvm.Term.string "EncoresModel" (155 : Nat))),
 Jvm.Cond.not (Jvm.Cond.eq (Jvm.Term.string "EncoresModel" (105 : Nat)) (Jvm.Term.string "EncoresModel" (155 : Nat))),
 Jvm.Cond.not (Jvm.Cond.eq (Jvm.Term.string "EncoresModel" (107 : Nat)) (Jvm.Term.string "EncoresModel" (155 : Nat))),
 Jvm.Cond.not (Jvm.Cond.eq (Jvm.Term.string "EncoresModel" (109 : Nat)) (Jvm.Term.string "EncoresModel" (155 : Nat))),
 Jvm.Cond.not (Jvm.Cond.eq (Jvm.Term.string "EncoresModel" (111 : Nat)) (Jvm.Term.string "EncoresModel" (155 : Nat))),
 Jvm.Cond.not (Jvm.Cond.eq (Jvm.Term.string "EncoresModel" (113 : Nat)) (Jvm.Term.string "EncoresModel" (155 : Nat))),
 Jvm.Cond.not (Jvm.Cond.eq (Jvm.Term.string "EncoresModel" (115 : Nat)) (Jvm.Term.string "EncoresModel" (155 : Nat))),
 Jvm.Cond.not (Jvm.Cond.eq (Jvm.Term.string "EncoresModel" (117 : Nat)) (Jvm.Term.string "EncoresModel" (155 : Nat))),
 Jvm.Cond.not (Jvm.Cond.eq (Jvm.Term.string "EncoresModel" (119 : Nat)) (Jvm.Term.string "EncoresModel" (155 : Nat))),
 Jvm.Cond.not (Jvm.Cond.eq (Jvm.Term.string "EncoresModel" (138 : Nat)) (Jvm.Term.string "EncoresModel" (155 : Nat))),
 Jvm.Cond.not (Jvm.Cond.eq (Jvm.Term.string "EncoresModel" (140 : Nat)) (Jvm.Term.string "EncoresModel" (155 : Nat))),
 Jvm.Cond.not (Jvm.Cond.eq (Jvm.Term.string "EncoresModel" (142 : Nat)) (Jvm.Term.string "EncoresModel" (155 : Nat))),
 Jvm.Cond.not (Jvm.Cond.eq (Jvm.Term.string "EncoresModel" (144 : Nat)) (Jvm.Term.string "EncoresModel" (155 : Nat))),
 Jvm.Cond.exactly (Jvm.Term.string "EncoresModel" (156 : Nat)) "java/lang/String",
 Jvm.Cond.eq (Jvm.Term.field (Jvm.Term.string "EncoresModel" (156 : Nat)) "java/lang/String" "coder" "B") (Jvm.Term.int (0 : Int32)),
 Jvm.Cond.arrayOf (Jvm.Term.field (Jvm.Term.string "EncoresModel" (156 : Nat)) "java/lang/String" "value" "[B") Jvm.ClassFile.FieldType.byte,
 Jvm.Cond.eq (Jvm.Term.length (Jvm.Term.field (Jvm.Term.string "EncoresModel" (156 : Nat)) "java/lang/String" "value" "[B")) (Jvm.Term.int (4 : Int32)),
 Jvm.Cond.eq (Jvm.Term.elem (Jvm.Term.field (Jvm.Term.string "EncoresModel" (156 : Nat)) "java/lang/String" "value" "[B") (Jvm.Term.int (0 : Int32))) (Jvm.Term.int (100 : Int32)),
 Jvm.Cond.eq (Jvm.Term.elem (Jvm.Term.field (Jvm.Term.string "EncoresModel" (156 : Nat)) "java/lang/String" "value" "[B") (Jvm.Term.int (1 : Int32))) (Jvm.Term.int (101 : Int32)),
 Jvm.Cond.eq (Jvm.Term.elem (Jvm.Term.field (Jvm.Term.string "EncoresModel" (156 : Nat)) "java/lang/String" "value" "[B") (Jvm.Term.int (2 : Int32))) (Jvm.Term.int (101 : Int32)),
 Jvm.Cond.eq (Jvm.Term.elem (Jvm.Term.field (Jvm.Term.string "EncoresModel" (156 : Nat)) "java/lang/String" "value" "[B") (Jvm.Term.int (3 : Int32))) (Jvm.Term.int (100 : Int32)),
 Jvm.Cond.not (Jvm.Cond.eq (Jvm.Term.string "Encores$Tape" (80 : Nat)) (Jvm.Term.string "EncoresModel" (156 : Nat))),
 Jvm.Cond.not (Jvm.Cond.eq (Jvm.Term.string "EncoresModel" (121 : Nat)) (Jvm.Term.string "EncoresModel" (156 : Nat))),
 Jvm.Cond.not (Jvm.Cond.eq (Jvm.Term.string "EncoresModel" (123 : Nat)) (Jvm.Term.string "EncoresModel" (156 : Nat))),
 Jvm.Cond.not (Jvm.Cond.eq (Jvm.Term.string "EncoresModel" (125 : Nat)) (Jvm.Term.string "EncoresModel" (156 : Nat))),
 Jvm.Cond.not (Jvm.Cond.eq (Jvm.Term.string "EncoresModel" (127 : Nat)) (Jvm.Term.string "EncoresModel" (156 : Nat))),
 Jvm.Cond.not (Jvm.Cond.eq (Jvm.Term.string "EncoresModel" (129 : Nat)) (Jvm.Term.string "EncoresModel" (156 : Nat))),
 Jvm.Cond.not (Jvm.Cond.eq (Jvm.Term.string "EncoresModel" (131 : Nat)) (Jvm.Term.string "EncoresModel" (156 : Nat))),
 Jvm.Cond.not (Jvm.Cond.eq (Jvm.Term.string "EncoresModel" (133 : Nat)) (Jvm.Term.string "EncoresModel" (156 : Nat))),
 Jvm.Cond.not (Jvm.Cond.eq (Jvm.Term.string "EncoresModel" (97 : Nat)) (Jvm.Term.string "EncoresModel" (156 : Nat))),
 Jvm.Cond.not (Jvm.Cond.eq (Jvm.Term.string "EncoresModel" (103 : Nat)) (Jvm.Term.string "EncoresModel" (156 : Nat))),
 Jvm.Cond.not (Jvm.Cond.eq (Jvm.Term.string "EncoresModel" (105 : Nat)) (Jvm.Term.string "EncoresModel" (156 : Nat))),
 Jvm.Cond.not (Jvm.Cond.eq (Jvm.Term.string "EncoresModel" (107 : Nat)) (Jvm.Term.string "EncoresModel" (156 : Nat))),
 Jvm.Cond.not (Jvm.Cond.eq (Jvm.Term.string "EncoresModel" (109 : Nat)) (Jvm.Term.string "EncoresModel" (156 : Nat))),
 Jvm.Cond.not (Jvm.Cond.eq (Jvm.Term.string "EncoresModel" (111 : Nat)) (Jvm.Term.string "EncoresModel" (156 : Nat))),
 Jvm.Cond.not (Jvm.Cond.eq (Jvm.Term.string "EncoresModel" (113 : Nat)) (Jvm.Term.string "EncoresModel" (156 : Nat))),
 Jvm.Cond.not (Jvm.Cond.eq (Jvm.Term.string "EncoresModel" (115 : Nat)) (Jvm.Term.string "EncoresModel" (156 : Nat))),
 Jvm.Cond.not (Jvm.Cond.eq (Jvm.Term.string "EncoresModel" (117 : Nat)) (Jvm.Term.string "EncoresModel" (156 : Nat))),
 Jvm.Cond.not (Jvm.Cond.eq (Jvm.Term.string "EncoresModel" (119 : Nat)) (Jvm.Term.string "EncoresModel" (156 : Nat))),
 Jvm.Cond.not (Jvm.Cond.eq (Jvm.Term.string "EncoresModel" (138 : Nat)) (Jvm.Term.string "EncoresModel" (156 : Nat))),
 Jvm.Cond.not (Jvm.Cond.eq (Jvm.Term.string "EncoresModel" (140 : Nat)) (Jvm.Term.string "EncoresModel" (156 : Nat))),
 Jvm.Cond.not (Jvm.Cond.eq (Jvm.Term.string "EncoresModel" (142 : Nat)) (Jvm.Term.string "EncoresModel" (156 : Nat))),
 Jvm.Cond.not (Jvm.Cond.eq (Jvm.Term.string "EncoresModel" (144 : Nat)) (Jvm.Term.string "EncoresModel" (156 : Nat))),
 Jvm.Cond.not (Jvm.Cond.eq (Jvm.Term.string "EncoresModel" (155 : Nat)) (Jvm.Term.string "EncoresModel" (156 : Nat))),
 Jvm.Cond.not (Jvm.Cond.eq (Jvm.Term.arg (0 : Nat)) (Jvm.Term.static "Encores" "HEAP" "[I"))]
set_option maxRecDepth 100000 in
theorem gl_eq : flatC (Jvm.Cond.and given_1 narrow_1) = GL := by decide +kernel
def tmS (i : Nat) : Term := match strL[i]? with
  | some q => .string q.1 q.2.1
  | none => .arg 0
theorem gl_at {w : Cond} (k : Nat) (h : GL[k]? = some w) : w ∈ flatC (Jvm.Cond.and given_1 narrow_1) := by
  rw [gl_eq]; exact List.mem_of_getElem? h
set_option maxRecDepth 100000 in
theorem gv_ex : ∀ i, i < strN → Cond.exactly (tmS i) "java/lang/String" ∈ flatC (Jvm.Cond.and given_1 narrow_1) := by
  intro i hi
  match i, hi with
  | 0, _ => exact gl_at 19 rfl
  | 1, _ => exact gl_at 146 rfl
  | 2, _ => exact gl_at 155 rfl
  | 3, _ => exact gl_at 163 rfl
  | 4, _ => exact gl_at 173 rfl
  | 5, _ => exact gl_at 184 rfl
  | 6, _ => exact gl_at 197 rfl
  | 7, _ => exact gl_at 211 rfl
  | 8, _ => exact gl_at 227 rfl
  | 9, _ => exact gl_at 245 rfl
  | 10, _ => exact gl_at 263 rfl
  | 11, _ => exact gl_at 282 rfl
  | 12, _ => exact gl_at 304 rfl
  | 13, _ => exact gl_at 324 rfl
  | 14, _ => exact gl_at 346 rfl
  | 15, _ => exact gl_at 368 rfl
  | 16, _ => exact gl_at 393 rfl
  | 17, _ => exact gl_at 419 rfl
  | 18, _ => exact gl_at 444 rfl
  | 19, _ => exact gl_at 470 rfl
  | 20, _ => exact gl_at 499 rfl
  | 21, _ => exact gl_at 526 rfl
  | 22, _ => exact gl_at 555 rfl
  | 23, _ => exact gl_at 583 rfl
  | i + 24, hi => exact absurd hi (by unfold strN; omega)
set_option maxRecDepth 100000 in
theorem gv_co : ∀ i, i < strN → Cond.eq (.field (tmS i) "java/lang/String" "coder" "B") (.int 0) ∈ flatC (Jvm.Cond.and given_1 narrow_1) := by
  intro i hi
  match i, hi with
  | 0, _ => exact gl_at 20 rfl
  | 1, _ => exact gl_at 147 rfl
  | 2, _ => exact gl_at 156 rfl
  | 3, _ => exact gl_at 164 rfl
  | 4, _ => exact gl_at 174 rfl
  | 5, _ => exact gl_at 185 rfl
  | 6, _ => exact gl_at 198 rfl
  | 7, _ => exact gl_at 212 rfl
  | 8, _ => exact gl_at 228 rfl
  | 9, _ => exact gl_at 246 rfl
  | 10, _ => exact gl_at 264 rfl
  | 11, _ => exact gl_at 283 rfl
  | 12, _ => exact gl_at 305 rfl
  | 13, _ => exact gl_at 325 rfl
  | 14, _ => exact gl_at 347 rfl
  | 15, _ => exact gl_at 369 rfl
  | 16, _ => exact gl_at 394 rfl
  | 17, _ => exact gl_at 420 rfl
  | 18, _ => exact gl_at 445 rfl
  | 19, _ => exact gl_at 471 rfl
  | 20, _ => exact gl_at 500 rfl
  | 21, _ => exact gl_at 527 rfl
  | 22, _ => exact gl_at 556 rfl
  | 23, _ => exact gl_at 584 rfl
  | i + 24, hi => exact absurd hi (by unfold strN; omega)
set_option maxRecDepth 100000 in
theorem gv_ar : ∀ i, i < strN → Cond.arrayOf (.field (tmS i) "java/lang/String" "value" "[B") .byte ∈ flatC (Jvm.Cond.and given_1 narrow_1) := by
  intro i hi
  match i, hi with
  | 0, _ => exact gl_at 21 rfl
  | 1, _ => exact gl_at 148 rfl
  | 2, _ => exact gl_at 157 rfl
  | 3, _ => exact gl_at 165 rfl
  | 4, _ => exact gl_at 175 rfl
  | 5, _ => exact gl_at 186 rfl
  | 6, _ => exact gl_at 199 rfl
  | 7, _ => exact gl_at 213 rfl
  | 8, _ => exact gl_at 229 rfl
  | 9, _ => exact gl_at 247 rfl
  | 10, _ => exact gl_at 265 rfl
  | 11, _ => exact gl_at 284 rfl
  | 12, _ => exact gl_at 306 rfl
  | 13, _ => exact gl_at 326 rfl
  | 14, _ => exact gl_at 348 rfl
  | 15, _ => exact gl_at 370 rfl
  | 16, _ => exact gl_at 395 rfl
  | 17, _ => exact gl_at 421 rfl
  | 18, _ => exact gl_at 446 rfl
  | 19, _ => exact gl_at 472 rfl
  | 20, _ => exact gl_at 501 rfl
  | 21, _ => exact gl_at 528 rfl
  | 22, _ => exact gl_at 557 rfl
  | 23, _ => exact gl_at 585 rfl
  | i + 24, hi => exact absurd hi (by unfold strN; omega)
set_option maxRecDepth 100000 in
theorem gv_le : ∀ i, i < strN → Cond.eq (.length (.field (tmS i) "java/lang/String" "value" "[B")) (.int (Int32.ofNat (strLen.getD i 0))) ∈ flatC (Jvm.Cond.and given_1 narrow_1) := by
  intro i hi
  match i, hi with
  | 0, _ => exact gl_at 22 rfl
  | 1, _ => exact gl_at 149 rfl
  | 2, _ => exact gl_at 158 rfl
  | 3, _ => exact gl_at 166 rfl
  | 4, _ => exact gl_at 176 rfl
  | 5, _ => exact gl_at 187 rfl
  | 6, _ => exact gl_at 200 rfl
  | 7, _ => exact gl_at 214 rfl
  | 8, _ => exact gl_at 230 rfl
  | 9, _ => exact gl_at 248 rfl
  | 10, _ => exact gl_at 266 rfl
  | 11, _ => exact gl_at 285 rfl
  | 12, _ => exact gl_at 307 rfl
  | 13, _ => exact gl_at 327 rfl
  | 14, _ => exact gl_at 349 rfl
  | 15, _ => exact gl_at 371 rfl
  | 16, _ => exact gl_at 396 rfl
  | 17, _ => exact gl_at 422 rfl
  | 18, _ => exact gl_at 447 rfl
  | 19, _ => exact gl_at 473 rfl
  | 20, _ => exact gl_at 502 rfl
  | 21, _ => exact gl_at 529 rfl
  | 22, _ => exact gl_at 558 rfl
  | 23, _ => exact gl_at 586 rfl
  | i + 24, hi => exact absurd hi (by unfold strN; omega)
set_option maxRecDepth 100000 in
theorem gv_el0 : ∀ j, j < strLen.getD 0 0 → Cond.eq (.elem (.field (tmS 0) "java/lang/String" "value" "[B") (.int (Int32.ofNat j))) (.int ((strByt.getD 0 []).getD j 0)) ∈ flatC (Jvm.Cond.and given_1 narrow_1) := by
  intro j hj
  have hj : j < 123 := hj
  match j, hj with
  | 0, _ => exact gl_at 23 rfl
  | 1, _ => exact gl_at 24 rfl
  | 2, _ => exact gl_at 25 rfl
  | 3, _ => exact gl_at 26 rfl
  | 4, _ => exact gl_at 27 rfl
  | 5, _ => exact gl_at 28 rfl
  | 6, _ => exact gl_at 29 rfl
  | 7, _ => exact gl_at 30 rfl
  | 8, _ => exact gl_at 31 rfl
  | 9, _ => exact gl_at 32 rfl
  | 10, _ => exact gl_at 33 rfl
  | 11, _ => exact gl_at 34 rfl
  | 12, _ => exact gl_at 35 rfl
  | 13, _ => exact gl_at 36 rfl
  | 14, _ => exact gl_at 37 rfl
  | 15, _ => exact gl_at 38 rfl
  | 16, _ => exact gl_at 39 rfl
  | 17, _ => exact gl_at 40 rfl
  | 18, _ => exact gl_at 41 rfl
  | 19, _ => exact gl_at 42 rfl
  | 20, _ => exact gl_at 43 rfl
  | 21, _ => exact gl_at 44 rfl
  | 22, _ => exact gl_at 45 rfl
  | 23, _ => exact gl_at 46 rfl
  | 24, _ => exact gl_at 47 rfl
  | 25, _ => exact gl_at 48 rfl
  | 26, _ => exact gl_at 49 rfl
  | 27, _ => exact gl_at 50 rfl
  | 28, _ => exact gl_at 51 rfl
  | 29, _ => exact gl_at 52 rfl
  | 30, _ => exact gl_at 53 rfl
  | 31, _ => exact gl_at 54 rfl
  | 32, _ => exact gl_at 55 rfl
  | 33, _ => exact gl_at 56 rfl
  | 34, _ => exact gl_at 57 rfl
  | 35, _ => exact gl_at 58 rfl
  | 36, _ => exact gl_at 59 rfl
  | 37, _ => exact gl_at 60 rfl
  | 38, _ => exact gl_at 61 rfl
  | 39, _ => exact gl_at 62 rfl
  | 40, _ => exact gl_at 63 rfl
  | 41, _ => exact gl_at 64 rfl
  | 42, _ => exact gl_at 65 rfl
  | 43, _ => exact gl_at 66 rfl
  | 44, _ => exact gl_at 67 rfl
  | 45, _ => exact gl_at 68 rfl
  | 46, _ => exact gl_at 69 rfl
  | 47, _ => exact gl_at 70 rfl
  | 48, _ => exact gl_at 71 rfl
  | 49, _ => exact gl_at 72 rfl
  | 50, _ => exact gl_at 73 rfl
  | 51, _ => exact gl_at 74 rfl
  | 52, _ => exact gl_at 75 rfl
  | 53, _ => exact gl_at 76 rfl
  | 54, _ => exact gl_at 77 rfl
  | 55, _ => exact gl_at 78 rfl
  | 56, _ => exact gl_at 79 rfl
  | 57, _ => exact gl_at 80 rfl
  | 58, _ => exact gl_at 81 rfl
  | 59, _ => exact gl_at 82 rfl
  | 60, _ => exact gl_at 83 rfl
  | 61, _ => exact gl_at 84 rfl
  | 62, _ => exact gl_at 85 rfl
  | 63, _ => exact gl_at 86 rfl
  | 64, _ => exact gl_at 87 rfl
  | 65, _ => exact gl_at 88 rfl
  | 66, _ => exact gl_at 89 rfl
  | 67, _ => exact gl_at 90 rfl
  | 68, _ => exact gl_at 91 rfl
  | 69, _ => exact gl_at 92 rfl
  | 70, _ => exact gl_at 93 rfl
  | 71, _ => exact gl_at 94 rfl
  | 72, _ => exact gl_at 95 rfl
  | 73, _ => exact gl_at 96 rfl
  | 74, _ => exact gl_at 97 rfl
  | 75, _ => exact gl_at 98 rfl
  | 76, _ => exact gl_at 99 rfl
  | 77, _ => exact gl_at 100 rfl
  | 78, _ => exact gl_at 101 rfl
  | 79, _ => exact gl_at 102 rfl
  | 80, _ => exact gl_at 103 rfl
  | 81, _ => exact gl_at 104 rfl
  | 82, _ => exact gl_at 105 rfl
  | 83, _ => exact gl_at 106 rfl
  | 84, _ => exact gl_at 107 rfl
  | 85, _ => exact gl_at 108 rfl
  | 86, _ => exact gl_at 109 rfl
  | 87, _ => exact gl_at 110 rfl
  | 88, _ => exact gl_at 111 rfl
  | 89, _ => exact gl_at 112 rfl
  | 90, _ => exact gl_at 113 rfl
  | 91, _ => exact gl_at 114 rfl
  | 92, _ => exact gl_at 115 rfl
  | 93, _ => exact gl_at 116 rfl
  | 94, _ => exact gl_at 117 rfl
  | 95, _ => exact gl_at 118 rfl
  | 96, _ => exact gl_at 119 rfl
  | 97, _ => exact gl_at 120 rfl
  | 98, _ => exact gl_at 121 rfl
  | 99, _ => exact gl_at 122 rfl
  | 100, _ => exact gl_at 123 rfl
  | 101, _ => exact gl_at 124 rfl
  | 102, _ => exact gl_at 125 rfl
  | 103, _ => exact gl_at 126 rfl
  | 104, _ => exact gl_at 127 rfl
  | 105, _ => exact gl_at 128 rfl
  | 106, _ => exact gl_at 129 rfl
  | 107, _ => exact gl_at 130 rfl
  | 108, _ => exact gl_at 131 rfl
  | 109, _ => exact gl_at 132 rfl
  | 110, _ => exact gl_at 133 rfl
  | 111, _ => exact gl_at 134 rfl
  | 112, _ => exact gl_at 135 rfl
  | 113, _ => exact gl_at 136 rfl
  | 114, _ => exact gl_at 137 rfl
  | 115, _ => exact gl_at 138 rfl
  | 116, _ => exact gl_at 139 rfl
  | 117, _ => exact gl_at 140 rfl
  | 118, _ => exact gl_at 141 rfl
  | 119, _ => exact gl_at 142 rfl
  | 120, _ => exact gl_at 143 rfl
  | 121, _ => exact gl_at 144 rfl
  | 122, _ => exact gl_at 145 rfl
  | j + 123, hj => exact absurd hj (by omega)
set_option maxRecDepth 100000 in
theorem gv_el1 : ∀ j, j < strLen.getD 1 0 → Cond.eq (.elem (.field (tmS 1) "java/lang/String" "value" "[B") (.int (Int32.ofNat j))) (.int ((strByt.getD 1 []).getD j 0)) ∈ flatC (Jvm.Cond.and given_1 narrow_1) := by
  intro j hj
  have hj : j < 4 := hj
  match j, hj with
  | 0, _ => exact gl_at 150 rfl
  | 1, _ => exact gl_at 151 rfl
  | 2, _ => exact gl_at 152 rfl
  | 3, _ => exact gl_at 153 rfl
  | j + 4, hj => exact absurd hj (by omega)
set_option maxRecDepth 100000 in
theorem gv_el2 : ∀ j, j < strLen.getD 2 0 → Cond.eq (.elem (.field (tmS 2) "java/lang/String" "value" "[B") (.int (Int32.ofNat j))) (.int ((strByt.getD 2 []).getD j 0)) ∈ flatC (Jvm.Cond.and given_1 narrow_1) := by
  intro j hj
  have hj : j < 2 := hj
  match j, hj with
  | 0, _ => exact gl_at 159 rfl
  | 1, _ => exact gl_at 160 rfl
  | j + 2, hj => exact absurd hj (by omega)
set_option maxRecDepth 100000 in
theorem gv_el3 : ∀ j, j < strLen.getD 3 0 → Cond.eq (.elem (.field (tmS 3) "java/lang/String" "value" "[B") (.int (Int32.ofNat j))) (.int ((strByt.getD 3 []).getD j 0)) ∈ flatC (Jvm.Cond.and given_1 narrow_1) := by
  intro j hj
  have hj : j < 3 := hj
  match j, hj with
  | 0, _ => exact gl_at 167 rfl
  | 1, _ => exact gl_at 168 rfl
  | 2, _ => exact gl_at 169 rfl
  | j + 3, hj => exact absurd hj (by omega)
set_option maxRecDepth 100000 in
theorem gv_el4 : ∀ j, j < strLen.getD 4 0 → Cond.eq (.elem (.field (tmS 4) "java/lang/String" "value" "[B") (.int (Int32.ofNat j))) (.int ((strByt.getD 4 []).getD j 0)) ∈ flatC (Jvm.Cond.and given_1 narrow_1) := by
  intro j hj
  have hj : j < 3 := hj
  match j, hj with
  | 0, _ => exact gl_at 177 rfl
  | 1, _ => exact gl_at 178 rfl
  | 2, _ => exact gl_at 179 rfl
  | j + 3, hj => exact absurd hj (by omega)
set_option maxRecDepth 100000 in
theorem gv_el5 : ∀ j, j < strLen.getD 5 0 → Cond.eq (.elem (.field (tmS 5) "java/lang/String" "value" "[B") (.int (Int32.ofNat j))) (.int ((strByt.getD 5 []).getD j 0)) ∈ flatC (Jvm.Cond.and given_1 narrow_1) := by
  intro j hj
  have hj : j < 4 := hj
  match j, hj with
  | 0, _ => exact gl_at 188 rfl
  | 1, _ => exact gl_at 189 rfl
  | 2, _ => exact gl_at 190 rfl
  | 3, _ => exact gl_at 191 rfl
  | j + 4, hj => exact absurd hj (by omega)
set_option maxRecDepth 100000 in
theorem gv_el6 : ∀ j, j < strLen.getD 6 0 → Cond.eq (.elem (.field (tmS 6) "java/lang/String" "value" "[B") (.int (Int32.ofNat j))) (.int ((strByt.getD 6 []).getD j 0)) ∈ flatC (Jvm.Cond.and given_1 narrow_1) := by
  intro j hj
  have hj : j < 4 := hj
  match j, hj with
  | 0, _ => exact gl_at 201 rfl
  | 1, _ => exact gl_at 202 rfl
  | 2, _ => exact gl_at 203 rfl
  | 3, _ => exact gl_at 204 rfl
  | j + 4, hj => exact absurd hj (by omega)
set_option maxRecDepth 100000 in
theorem gv_el7 : ∀ j, j < strLen.getD 7 0 → Cond.eq (.elem (.field (tmS 7) "java/lang/String" "value" "[B") (.int (Int32.ofNat j))) (.int ((strByt.getD 7 []).getD j 0)) ∈ flatC (Jvm.Cond.and given_1 narrow_1) := by
  intro j hj
  have hj : j < 5 := hj
  match j, hj with
  | 0, _ => exact gl_at 215 rfl
  | 1, _ => exact gl_at 216 rfl
  | 2, _ => exact gl_at 217 rfl
  | 3, _ => exact gl_at 218 rfl
  | 4, _ => exact gl_at 219 rfl
  | j + 5, hj => exact absurd hj (by omega)
set_option maxRecDepth 100000 in
theorem gv_el8 : ∀ j, j < strLen.getD 8 0 → Cond.eq (.elem (.field (tmS 8) "java/lang/String" "value" "[B") (.int (Int32.ofNat j))) (.int ((strByt.getD 8 []).getD j 0)) ∈ flatC (Jvm.Cond.and given_1 narrow_1) := by
  intro j hj
  have hj : j < 6 := hj
  match j, hj with
  | 0, _ => exact gl_at 231 rfl
  | 1, _ => exact gl_at 232 rfl
  | 2, _ => exact gl_at 233 rfl
  | 3, _ => exact gl_at 234 rfl
  | 4, _ => exact gl_at 235 rfl
  | 5, _ => exact gl_at 236 rfl
  | j + 6, hj => exact absurd hj (by omega)
set_option maxRecDepth 100000 in
theorem gv_el9 : ∀ j, j < strLen.getD 9 0 → Cond.eq (.elem (.field (tmS 9) "java/lang/String" "value" "[B") (.int (Int32.ofNat j))) (.int ((strByt.getD 9 []).getD j 0)) ∈ flatC (Jvm.Cond.and given_1 narrow_1) := by
  intro j hj
  have hj : j < 5 := hj
  match j, hj with
  | 0, _ => exact gl_at 249 rfl
  | 1, _ => exact gl_at 250 rfl
  | 2, _ => exact gl_at 251 rfl
  | 3, _ => exact gl_at 252 rfl
  | 4, _ => exact gl_at 253 rfl
  | j + 5, hj => exact absurd hj (by omega)
set_option maxRecDepth 100000 in
theorem gv_el10 : ∀ j, j < strLen.getD 10 0 → Cond.eq (.elem (.field (tmS 10) "java/lang/String" "value" "[B") (.int (Int32.ofNat j))) (.int ((strByt.getD 10 []).getD j 0)) ∈ flatC (Jvm.Cond.and given_1 narrow_1) := by
  intro j hj
  have hj : j < 5 := hj
  match j, hj with
  | 0, _ => exact gl_at 267 rfl
  | 1, _ => exact gl_at 268 rfl
  | 2, _ => exact gl_at 269 rfl
  | 3, _ => exact gl_at 270 rfl
  | 4, _ => exact gl_at 271 rfl
  | j + 5, hj => exact absurd hj (by omega)
set_option maxRecDepth 100000 in
theorem gv_el11 : ∀ j, j < strLen.getD 11 0 → Cond.eq (.elem (.field (tmS 11) "java/lang/String" "value" "[B") (.int (Int32.ofNat j))) (.int ((strByt.getD 11 []).getD j 0)) ∈ flatC (Jvm.Cond.and given_1 narrow_1) := by
  intro j hj
  have hj : j < 7 := hj
  match j, hj with
  | 0, _ => exact gl_at 286 rfl
  | 1, _ => exact gl_at 287 rfl
  | 2, _ => exact gl_at 288 rfl
  | 3, _ => exact gl_at 289 rfl
  | 4, _ => exact gl_at 290 rfl
  | 5, _ => exact gl_at 291 rfl
  | 6, _ => exact gl_at 292 rfl
  | j + 7, hj => exact absurd hj (by omega)
set_option maxRecDepth 100000 in
theorem gv_el12 : ∀ j, j < strLen.getD 12 0 → Cond.eq (.elem (.field (tmS 12) "java/lang/String" "value" "[B") (.int (Int32.ofNat j))) (.int ((strByt.getD 12 []).getD j 0)) ∈ flatC (Jvm.Cond.and given_1 narrow_1) := by
  intro j hj
  have hj : j < 4 := hj
  match j, hj with
  | 0, _ => exact gl_at 308 rfl
  | 1, _ => exact gl_at 309 rfl
  | 2, _ => exact gl_at 310 rfl
  | 3, _ => exact gl_at 311 rfl
  | j + 4, hj => exact absurd hj (by omega)
set_option maxRecDepth 100000 in
theorem gv_el13 : ∀ j, j < strLen.getD 13 0 → Cond.eq (.elem (.field (tmS 13) "java/lang/String" "value" "[B") (.int (Int32.ofNat j))) (.int ((strByt.getD 13 []).getD j 0)) ∈ flatC (Jvm.Cond.and given_1 narrow_1) := by
  intro j hj
  have hj : j < 5 := hj
  match j, hj with
  | 0, _ => exact gl_at 328 rfl
  | 1, _ => exact gl_at 329 rfl
  | 2, _ => exact gl_at 330 rfl
  | 3, _ => exact gl_at 331 rfl
  | 4, _ => exact gl_at 332 rfl
  | j + 5, hj => exact absurd hj (by omega)
set_option maxRecDepth 100000 in
theorem gv_el14 : ∀ j, j < strLen.getD 14 0 → Cond.eq (.elem (.field (tmS 14) "java/lang/String" "value" "[B") (.int (Int32.ofNat j))) (.int ((strByt.getD 14 []).getD j 0)) ∈ flatC (Jvm.Cond.and given_1 narrow_1) := by
  intro j hj
  have hj : j < 4 := hj
  match j, hj with
  | 0, _ => exact gl_at 350 rfl
  | 1, _ => exact gl_at 351 rfl
  | 2, _ => exact gl_at 352 rfl
  | 3, _ => exact gl_at 353 rfl
  | j + 4, hj => exact absurd hj (by omega)
set_option maxRecDepth 100000 in
theorem gv_el15 : ∀ j, j < strLen.getD 15 0 → Cond.eq (.elem (.field (tmS 15) "java/lang/String" "value" "[B") (.int (Int32.ofNat j))) (.int ((strByt.getD 15 []).getD j 0)) ∈ flatC (Jvm.Cond.and given_1 narrow_1) := by
  intro j hj
  have hj : j < 6 := hj
  match j, hj with
  | 0, _ => exact gl_at 372 rfl
  | 1, _ => exact gl_at 373 rfl
  | 2, _ => exact gl_at 374 rfl
  | 3, _ => exact gl_at 375 rfl
  | 4, _ => exact gl_at 376 rfl
  | 5, _ => exact gl_at 377 rfl
  | j + 6, hj => exact absurd hj (by omega)
set_option maxRecDepth 100000 in
theorem gv_el16 : ∀ j, j < strLen.getD 16 0 → Cond.eq (.elem (.field (tmS 16) "java/lang/String" "value" "[B") (.int (Int32.ofNat j))) (.int ((strByt.getD 16 []).getD j 0)) ∈ flatC (Jvm.Cond.and given_1 narrow_1) := by
  intro j hj
  have hj : j < 6 := hj
  match j, hj with
  | 0, _ => exact gl_at 397 rfl
  | 1, _ => exact gl_at 398 rfl
  | 2, _ => exact gl_at 399 rfl
  | 3, _ => exact gl_at 400 rfl
  | 4, _ => exact gl_at 401 rfl
  | 5, _ => exact gl_at 402 rfl
  | j + 6, hj => exact absurd hj (by omega)
set_option maxRecDepth 100000 in
theorem gv_el17 : ∀ j, j < strLen.getD 17 0 → Cond.eq (.elem (.field (tmS 17) "java/lang/String" "value" "[B") (.int (Int32.ofNat j))) (.int ((strByt.getD 17 []).getD j 0)) ∈ flatC (Jvm.Cond.and given_1 narrow_1) := by
  intro j hj
  have hj : j < 4 := hj
  match j, hj with
  | 0, _ => exact gl_at 423 rfl
  | 1, _ => exact gl_at 424 rfl
  | 2, _ => exact gl_at 425 rfl
  | 3, _ => exact gl_at 426 rfl
  | j + 4, hj => exact absurd hj (by omega)
set_option maxRecDepth 100000 in
theorem gv_el18 : ∀ j, j < strLen.getD 18 0 → Cond.eq (.elem (.field (tmS 18) "java/lang/String" "value" "[B") (.int (Int32.ofNat j))) (.int ((strByt.getD 18 []).getD j 0)) ∈ flatC (Jvm.Cond.and given_1 narrow_1) := by
  intro j hj
  have hj : j < 4 := hj
  match j, hj with
  | 0, _ => exact gl_at 448 rfl
  | 1, _ => exact gl_at 449 rfl
  | 2, _ => exact gl_at 450 rfl
  | 3, _ => exact gl_at 451 rfl
  | j + 4, hj => exact absurd hj (by omega)
set_option maxRecDepth 100000 in
theorem gv_el19 : ∀ j, j < strLen.getD 19 0 → Cond.eq (.elem (.field (tmS 19) "java/lang/String" "value" "[B") (.int (Int32.ofNat j))) (.int ((strByt.getD 19 []).getD j 0)) ∈ flatC (Jvm.Cond.and given_1 narrow_1) := by
  intro j hj
  have hj : j < 6 := hj
  match j, hj with
  | 0, _ => exact gl_at 474 rfl
  | 1, _ => exact gl_at 475 rfl
  | 2, _ => exact gl_at 476 rfl
  | 3, _ => exact gl_at 477 rfl
  | 4, _ => exact gl_at 478 rfl
  | 5, _ => exact gl_at 479 rfl
  | j + 6, hj => exact absurd hj (by omega)
set_option maxRecDepth 100000 in
theorem gv_el20 : ∀ j, j < strLen.getD 20 0 → Cond.eq (.elem (.field (tmS 20) "java/lang/String" "value" "[B") (.int (Int32.ofNat j))) (.int ((strByt.getD 20 []).getD j 0)) ∈ flatC (Jvm.Cond.and given_1 narrow_1) := by
  intro j hj
  have hj : j < 3 := hj
  match j, hj with
  | 0, _ => exact gl_at 503 rfl
  | 1, _ => exact gl_at 504 rfl
  | 2, _ => exact gl_at 505 rfl
  | j + 3, hj => exact absurd hj (by omega)
set_option maxRecDepth 100000 in
theorem gv_el21 : ∀ j, j < strLen.getD 21 0 → Cond.eq (.elem (.field (tmS 21) "java/lang/String" "value" "[B") (.int (Int32.ofNat j))) (.int ((strByt.getD 21 []).getD j 0)) ∈ flatC (Jvm.Cond.and given_1 narrow_1) := by
  intro j hj
  have hj : j < 4 := hj
  match j, hj with
  | 0, _ => exact gl_at 530 rfl
  | 1, _ => exact gl_at 531 rfl
  | 2, _ => exact gl_at 532 rfl
  | 3, _ => exact gl_at 533 rfl
  | j + 4, hj => exact absurd hj (by omega)
set_option maxRecDepth 100000 in
theorem gv_el22 : ∀ j, j < strLen.getD 22 0 → Cond.eq (.elem (.field (tmS 22) "java/lang/String" "value" "[B") (.int (Int32.ofNat j))) (.int ((strByt.getD 22 []).getD j 0)) ∈ flatC (Jvm.Cond.and given_1 narrow_1) := by
  intro j hj
  have hj : j < 2 := hj
  match j, hj with
  | 0, _ => exact gl_at 559 rfl
  | 1, _ => exact gl_at 560 rfl
  | j + 2, hj => exact absurd hj (by omega)
set_option maxRecDepth 100000 in
theorem gv_el23 : ∀ j, j < strLen.getD 23 0 → Cond.eq (.elem (.field (tmS 23) "java/lang/String" "value" "[B") (.int (Int32.ofNat j))) (.int ((strByt.getD 23 []).getD j 0)) ∈ flatC (Jvm.Cond.and given_1 narrow_1) := by
  intro j hj
  have hj : j < 4 := hj
  match j, hj with
  | 0, _ => exact gl_at 587 rfl
  | 1, _ => exact gl_at 588 rfl
  | 2, _ => exact gl_at 589 rfl
  | 3, _ => exact gl_at 590 rfl
  | j + 4, hj => exact absurd hj (by omega)
set_option maxRecDepth 100000 in
theorem gv_el : ∀ i, i < strN → ∀ j, j < strLen.getD i 0 → Cond.eq (.elem (.field (tmS i) "java/lang/String" "value" "[B") (.int (Int32.ofNat j))) (.int ((strByt.getD i []).getD j 0)) ∈ flatC (Jvm.Cond.and given_1 narrow_1) := by
  intro i hi
  match i, hi with
  | 0, _ => exact gv_el0
  | 1, _ => exact gv_el1
  | 2, _ => exact gv_el2
  | 3, _ => exact gv_el3
  | 4, _ => exact gv_el4
  | 5, _ => exact gv_el5
  | 6, _ => exact gv_el6
  | 7, _ => exact gv_el7
  | 8, _ => exact gv_el8
  | 9, _ => exact gv_el9
  | 10, _ => exact gv_el10
  | 11, _ => exact gv_el11
  | 12, _ => exact gv_el12
  | 13, _ => exact gv_el13
  | 14, _ => exact gv_el14
  | 15, _ => exact gv_el15
  | 16, _ => exact gv_el16
  | 17, _ => exact gv_el17
  | 18, _ => exact gv_el18
  | 19, _ => exact gv_el19
  | 20, _ => exact gv_el20
  | 21, _ => exact gv_el21
  | 22, _ => exact gv_el22
  | 23, _ => exact gv_el23
  | i + 24, hi => exact absurd hi (by unfold strN; omega)
set_option maxRecDepth 100000 in
theorem gv_ne0 : ∀ j, j < strN → 0 < j → Cond.not (Cond.eq (tmS 0) (tmS j)) ∈ flatC (Jvm.Cond.and given_1 narrow_1) := by
  intro j hj hij
  match j, hj, hij with
  | 0, _, h => exact absurd h (by omega)
  | 1, _, _ => exact gl_at 154 rfl
  | 2, _, _ => exact gl_at 161 rfl
  | 3, _, _ => exact gl_at 170 rfl
  | 4, _, _ => exact gl_at 180 rfl
  | 5, _, _ => exact gl_at 192 rfl
  | 6, _, _ => exact gl_at 205 rfl
  | 7, _, _ => exact gl_at 220 rfl
  | 8, _, _ => exact gl_at 237 rfl
  | 9, _, _ => exact gl_at 254 rfl
  | 10, _, _ => exact gl_at 272 rfl
  | 11, _, _ => exact gl_at 293 rfl
  | 12, _, _ => exact gl_at 312 rfl
  | 13, _, _ => exact gl_at 333 rfl
  | 14, _, _ => exact gl_at 354 rfl
  | 15, _, _ => exact gl_at 378 rfl
  | 16, _, _ => exact gl_at 403 rfl
  | 17, _, _ => exact gl_at 427 rfl
  | 18, _, _ => exact gl_at 452 rfl
  | 19, _, _ => exact gl_at 480 rfl
  | 20, _, _ => exact gl_at 506 rfl
  | 21, _, _ => exact gl_at 534 rfl
  | 22, _, _ => exact gl_at 561 rfl
  | 23, _, _ => exact gl_at 591 rfl
  | j + 24, hj, _ => exact absurd hj (by unfold strN; omega)
set_option maxRecDepth 100000 in
theorem gv_ne1 : ∀ j, j < strN → 1 < j → Cond.not (Cond.eq (tmS 1) (tmS j)) ∈ flatC (Jvm.Cond.and given_1 narrow_1) := by
  intro j hj hij
  match j, hj, hij with
  | 0, _, h => exact absurd h (by omega)
  | 1, _, h => exact absurd h (by omega)
  | 2, _, _ => exact gl_at 162 rfl
  | 3, _, _ => exact gl_at 171 rfl
  | 4, _, _ => exact gl_at 181 rfl
  | 5, _, _ => exact gl_at 193 rfl
  | 6, _, _ => exact gl_at 206 rfl
  | 7, _, _ => exact gl_at 221 rfl
  | 8, _, _ => exact gl_at 238 rfl
  | 9, _, _ => exact gl_at 255 rfl
  | 10, _, _ => exact gl_at 273 rfl
  | 11, _, _ => exact gl_at 294 rfl
  | 12, _, _ => exact gl_at 313 rfl
  | 13, _, _ => exact gl_at 334 rfl
  | 14, _, _ => exact gl_at 355 rfl
  | 15, _, _ => exact gl_at 379 rfl
  | 16, _, _ => exact gl_at 404 rfl
  | 17, _, _ => exact gl_at 428 rfl
  | 18, _, _ => exact gl_at 453 rfl
  | 19, _, _ => exact gl_at 481 rfl
  | 20, _, _ => exact gl_at 507 rfl
  | 21, _, _ => exact gl_at 535 rfl
  | 22, _, _ => exact gl_at 562 rfl
  | 23, _, _ => exact gl_at 592 rfl
  | j + 24, hj, _ => exact absurd hj (by unfold strN; omega)
set_option maxRecDepth 100000 in
theorem gv_ne2 : ∀ j, j < strN → 2 < j → Cond.not (Cond.eq (tmS 2) (tmS j)) ∈ flatC (Jvm.Cond.and given_1 narrow_1) := by
  intro j hj hij
  match j, hj, hij with
  | 0, _, h => exact absurd h (by omega)
  | 1, _, h => exact absurd h (by omega)
  | 2, _, h => exact absurd h (by omega)
  | 3, _, _ => exact gl_at 172 rfl
  | 4, _, _ => exact gl_at 182 rfl
  | 5, _, _ => exact gl_at 194 rfl
  | 6, _, _ => exact gl_at 207 rfl
  | 7, _, _ => exact gl_at 222 rfl
  | 8, _, _ => exact gl_at 239 rfl
  | 9, _, _ => exact gl_at 256 rfl
  | 10, _, _ => exact gl_at 274 rfl
  | 11, _, _ => exact gl_at 295 rfl
  | 12, _, _ => exact gl_at 314 rfl
  | 13, _, _ => exact gl_at 335 rfl
  | 14, _, _ => exact gl_at 356 rfl
  | 15, _, _ => exact gl_at 380 rfl
  | 16, _, _ => exact gl_at 405 rfl
  | 17, _, _ => exact gl_at 429 rfl
  | 18, _, _ => exact gl_at 454 rfl
  | 19, _, _ => exact gl_at 482 rfl
  | 20, _, _ => exact gl_at 508 rfl
  | 21, _, _ => exact gl_at 536 rfl
  | 22, _, _ => exact gl_at 563 rfl
  | 23, _, _ => exact gl_at 593 rfl
  | j + 24, hj, _ => exact absurd hj (by unfold strN; omega)
set_option maxRecDepth 100000 in
theorem gv_ne3 : ∀ j, j < strN → 3 < j → Cond.not (Cond.eq (tmS 3) (tmS j)) ∈ flatC (Jvm.Cond.and given_1 narrow_1) := by
  intro j hj hij
  match j, hj, hij with
  | 0, _, h => exact absurd h (by omega)
  | 1, _, h => exact absurd h (by omega)
  | 2, _, h => exact absurd h (by omega)
  | 3, _, h => exact absurd h (by omega)
  | 4, _, _ => exact gl_at 183 rfl
  | 5, _, _ => exact gl_at 195 rfl
  | 6, _, _ => exact gl_at 208 rfl
  | 7, _, _ => exact gl_at 223 rfl
  | 8, _, _ => exact gl_at 240 rfl
  | 9, _, _ => exact gl_at 257 rfl
  | 10, _, _ => exact gl_at 275 rfl
  | 11, _, _ => exact gl_at 296 rfl
  | 12, _, _ => exact gl_at 315 rfl
  | 13, _, _ => exact gl_at 336 rfl
  | 14, _, _ => exact gl_at 357 rfl
  | 15, _, _ => exact gl_at 381 rfl
  | 16, _, _ => exact gl_at 406 rfl
  | 17, _, _ => exact gl_at 430 rfl
  | 18, _, _ => exact gl_at 455 rfl
  | 19, _, _ => exact gl_at 483 rfl
  | 20, _, _ => exact gl_at 509 rfl
  | 21, _, _ => exact gl_at 537 rfl
  | 22, _, _ => exact gl_at 564 rfl
  | 23, _, _ => exact gl_at 594 rfl
  | j + 24, hj, _ => exact absurd hj (by unfold strN; omega)
set_option maxRecDepth 100000 in
theorem gv_ne4 : ∀ j, j < strN → 4 < j → Cond.not (Cond.eq (tmS 4) (tmS j)) ∈ flatC (Jvm.Cond.and given_1 narrow_1) := by
  intro j hj hij
  match j, hj, hij with
  | 0, _, h => exact absurd h (by omega)
  | 1, _, h => exact absurd h (by omega)
  | 2, _, h => exact absurd h (by omega)
  | 3, _, h => exact absurd h (by omega)
  | 4, _, h => exact absurd h (by omega)
  | 5, _, _ => exact gl_at 196 rfl
  | 6, _, _ => exact gl_at 209 rfl
  | 7, _, _ => exact gl_at 224 rfl
  | 8, _, _ => exact gl_at 241 rfl
  | 9, _, _ => exact gl_at 258 rfl
  | 10, _, _ => exact gl_at 276 rfl
  | 11, _, _ => exact gl_at 297 rfl
  | 12, _, _ => exact gl_at 316 rfl
  | 13, _, _ => exact gl_at 337 rfl
  | 14, _, _ => exact gl_at 358 rfl
  | 15, _, _ => exact gl_at 382 rfl
  | 16, _, _ => exact gl_at 407 rfl
  | 17, _, _ => exact gl_at 431 rfl
  | 18, _, _ => exact gl_at 456 rfl
  | 19, _, _ => exact gl_at 484 rfl
  | 20, _, _ => exact gl_at 510 rfl
  | 21, _, _ => exact gl_at 538 rfl
  | 22, _, _ => exact gl_at 565 rfl
  | 23, _, _ => exact gl_at 595 rfl
  | j + 24, hj, _ => exact absurd hj (by unfold strN; omega)
set_option maxRecDepth 100000 in
theorem gv_ne5 : ∀ j, j < strN → 5 < j → Cond.not (Cond.eq (tmS 5) (tmS j)) ∈ flatC (Jvm.Cond.and given_1 narrow_1) := by
  intro j hj hij
  match j, hj, hij with
  | 0, _, h => exact absurd h (by omega)
  | 1, _, h => exact absurd h (by omega)
  | 2, _, h => exact absurd h (by omega)
  | 3, _, h => exact absurd h (by omega)
  | 4, _, h => exact absurd h (by omega)
  | 5, _, h => exact absurd h (by omega)
  | 6, _, _ => exact gl_at 210 rfl
  | 7, _, _ => exact gl_at 225 rfl
  | 8, _, _ => exact gl_at 242 rfl
  | 9, _, _ => exact gl_at 259 rfl
  | 10, _, _ => exact gl_at 277 rfl
  | 11, _, _ => exact gl_at 298 rfl
  | 12, _, _ => exact gl_at 317 rfl
  | 13, _, _ => exact gl_at 338 rfl
  | 14, _, _ => exact gl_at 359 rfl
  | 15, _, _ => exact gl_at 383 rfl
  | 16, _, _ => exact gl_at 408 rfl
  | 17, _, _ => exact gl_at 432 rfl
  | 18, _, _ => exact gl_at 457 rfl
  | 19, _, _ => exact gl_at 485 rfl
  | 20, _, _ => exact gl_at 511 rfl
  | 21, _, _ => exact gl_at 539 rfl
  | 22, _, _ => exact gl_at 566 rfl
  | 23, _, _ => exact gl_at 596 rfl
  | j + 24, hj, _ => exact absurd hj (by unfold strN; omega)
set_option maxRecDepth 100000 in
theorem gv_ne6 : ∀ j, j < strN → 6 < j → Cond.not (Cond.eq (tmS 6) (tmS j)) ∈ flatC (Jvm.Cond.and given_1 narrow_1) := by
  intro j hj hij
  match j, hj, hij with
  | 0, _, h => exact absurd h (by omega)
  | 1, _, h => exact absurd h (by omega)
  | 2, _, h => exact absurd h (by omega)
  | 3, _, h => exact absurd h (by omega)
  | 4, _, h => exact absurd h (by omega)
  | 5, _, h => exact absurd h (by omega)
  | 6, _, h => exact absurd h (by omega)
  | 7, _, _ => exact gl_at 226 rfl
  | 8, _, _ => exact gl_at 243 rfl
  | 9, _, _ => exact gl_at 260 rfl
  | 10, _, _ => exact gl_at 278 rfl
  | 11, _, _ => exact gl_at 299 rfl
  | 12, _, _ => exact gl_at 318 rfl
  | 13, _, _ => exact gl_at 339 rfl
  | 14, _, _ => exact gl_at 360 rfl
  | 15, _, _ => exact gl_at 384 rfl
  | 16, _, _ => exact gl_at 409 rfl
  | 17, _, _ => exact gl_at 433 rfl
  | 18, _, _ => exact gl_at 458 rfl
  | 19, _, _ => exact gl_at 486 rfl
  | 20, _, _ => exact gl_at 512 rfl
  | 21, _, _ => exact gl_at 540 rfl
  | 22, _, _ => exact gl_at 567 rfl
  | 23, _, _ => exact gl_at 597 rfl
  | j + 24, hj, _ => exact absurd hj (by unfold strN; omega)
set_option maxRecDepth 100000 in
theorem gv_ne7 : ∀ j, j < strN → 7 < j → Cond.not (Cond.eq (tmS 7) (tmS j)) ∈ flatC (Jvm.Cond.and given_1 narrow_1) := by
  intro j hj hij
  match j, hj, hij with
  | 0, _, h => exact absurd h (by omega)
  | 1, _, h => exact absurd h (by omega)
  | 2, _, h => exact absurd h (by omega)
  | 3, _, h => exact absurd h (by omega)
  | 4, _, h => exact absurd h (by omega)
  | 5, _, h => exact absurd h (by omega)
  | 6, _, h => exact absurd h (by omega)
  | 7, _, h => exact absurd h (by omega)
  | 8, _, _ => exact gl_at 244 rfl
  | 9, _, _ => exact gl_at 261 rfl
  | 10, _, _ => exact gl_at 279 rfl
  | 11, _, _ => exact gl_at 300 rfl
  | 12, _, _ => exact gl_at 319 rfl
  | 13, _, _ => exact gl_at 340 rfl
  | 14, _, _ => exact gl_at 361 rfl
  | 15, _, _ => exact gl_at 385 rfl
  | 16, _, _ => exact gl_at 410 rfl
  | 17, _, _ => exact gl_at 434 rfl
  | 18, _, _ => exact gl_at 459 rfl
  | 19, _, _ => exact gl_at 487 rfl
  | 20, _, _ => exact gl_at 513 rfl
  | 21, _, _ => exact gl_at 541 rfl
  | 22, _, _ => exact gl_at 568 rfl
  | 23, _, _ => exact gl_at 598 rfl
  | j + 24, hj, _ => exact absurd hj (by unfold strN; omega)
set_option maxRecDepth 100000 in
theorem gv_ne8 : ∀ j, j < strN → 8 < j → Cond.not (Cond.eq (tmS 8) (tmS j)) ∈ flatC (Jvm.Cond.and given_1 narrow_1) := by
  intro j hj hij
  match j, hj, hij with
  | 0, _, h => exact absurd h (by omega)
  | 1, _, h => exact absurd h (by omega)
  | 2, _, h => exact absurd h (by omega)
  | 3, _, h => exact absurd h (by omega)
  | 4, _, h => exact absurd h (by omega)
  | 5, _, h => exact absurd h (by omega)
  | 6, _, h => exact absurd h (by omega)
  | 7, _, h => exact absurd h (by omega)
  | 8, _, h => exact absurd h (by omega)
  | 9, _, _ => exact gl_at 262 rfl
  | 10, _, _ => exact gl_at 280 rfl
  | 11, _, _ => exact gl_at 301 rfl
  | 12, _, _ => exact gl_at 320 rfl
  | 13, _, _ => exact gl_at 341 rfl
  | 14, _, _ => exact gl_at 362 rfl
  | 15, _, _ => exact gl_at 386 rfl
  | 16, _, _ => exact gl_at 411 rfl
  | 17, _, _ => exact gl_at 435 rfl
  | 18, _, _ => exact gl_at 460 rfl
  | 19, _, _ => exact gl_at 488 rfl
  | 20, _, _ => exact gl_at 514 rfl
  | 21, _, _ => exact gl_at 542 rfl
  | 22, _, _ => exact gl_at 569 rfl
  | 23, _, _ => exact gl_at 599 rfl
  | j + 24, hj, _ => exact absurd hj (by unfold strN; omega)
set_option maxRecDepth 100000 in
theorem gv_ne9 : ∀ j, j < strN → 9 < j → Cond.not (Cond.eq (tmS 9) (tmS j)) ∈ flatC (Jvm.Cond.and given_1 narrow_1) := by
  intro j hj hij
  match j, hj, hij with
  | 0, _, h => exact absurd h (by omega)
  | 1, _, h => exact absurd h (by omega)
  | 2, _, h => exact absurd h (by omega)
  | 3, _, h => exact absurd h (by omega)
  | 4, _, h => exact absurd h (by omega)
  | 5, _, h => exact absurd h (by omega)
  | 6, _, h => exact absurd h (by omega)
  | 7, _, h => exact absurd h (by omega)
  | 8, _, h => exact absurd h (by omega)
  | 9, _, h => exact absurd h (by omega)
  | 10, _, _ => exact gl_at 281 rfl
  | 11, _, _ => exact gl_at 302 rfl
  | 12, _, _ => exact gl_at 321 rfl
  | 13, _, _ => exact gl_at 342 rfl
  | 14, _, _ => exact gl_at 363 rfl
  | 15, _, _ => exact gl_at 387 rfl
  | 16, _, _ => exact gl_at 412 rfl
  | 17, _, _ => exact gl_at 436 rfl
  | 18, _, _ => exact gl_at 461 rfl
  | 19, _, _ => exact gl_at 489 rfl
  | 20, _, _ => exact gl_at 515 rfl
  | 21, _, _ => exact gl_at 543 rfl
  | 22, _, _ => exact gl_at 570 rfl
  | 23, _, _ => exact gl_at 600 rfl
  | j + 24, hj, _ => exact absurd hj (by unfold strN; omega)
set_option maxRecDepth 100000 in
theorem gv_ne10 : ∀ j, j < strN → 10 < j → Cond.not (Cond.eq (tmS 10) (tmS j)) ∈ flatC (Jvm.Cond.and given_1 narrow_1) := by
  intro j hj hij
  match j, hj, hij with
  | 0, _, h => exact absurd h (by omega)
  | 1, _, h => exact absurd h (by omega)
  | 2, _, h => exact absurd h (by omega)
  | 3, _, h => exact absurd h (by omega)
  | 4, _, h => exact absurd h (by omega)
  | 5, _, h => exact absurd h (by omega)
  | 6, _, h => exact absurd h (by omega)
  | 7, _, h => exact absurd h (by omega)
  | 8, _, h => exact absurd h (by omega)
  | 9, _, h => exact absurd h (by omega)
  | 10, _, h => exact absurd h (by omega)
  | 11, _, _ => exact gl_at 303 rfl
  | 12, _, _ => exact gl_at 322 rfl
  | 13, _, _ => exact gl_at 343 rfl
  | 14, _, _ => exact gl_at 364 rfl
  | 15, _, _ => exact gl_at 388 rfl
  | 16, _, _ => exact gl_at 413 rfl
  | 17, _, _ => exact gl_at 437 rfl
  | 18, _, _ => exact gl_at 462 rfl
  | 19, _, _ => exact gl_at 490 rfl
  | 20, _, _ => exact gl_at 516 rfl
  | 21, _, _ => exact gl_at 544 rfl
  | 22, _, _ => exact gl_at 571 rfl
  | 23, _, _ => exact gl_at 601 rfl
  | j + 24, hj, _ => exact absurd hj (by unfold strN; omega)
set_option maxRecDepth 100000 in
theorem gv_ne11 : ∀ j, j < strN → 11 < j → Cond.not (Cond.eq (tmS 11) (tmS j)) ∈ flatC (Jvm.Cond.and given_1 narrow_1) := by
  intro j hj hij
  match j, hj, hij with
  | 0, _, h => exact absurd h (by omega)
  | 1, _, h => exact absurd h (by omega)
  | 2, _, h => exact absurd h (by omega)
  | 3, _, h => exact absurd h (by omega)
  | 4, _, h => exact absurd h (by omega)
  | 5, _, h => exact absurd h (by omega)
  | 6, _, h => exact absurd h (by omega)
  | 7, _, h => exact absurd h (by omega)
  | 8, _, h => exact absurd h (by omega)
  | 9, _, h => exact absurd h (by omega)
  | 10, _, h => exact absurd h (by omega)
  | 11, _, h => exact absurd h (by omega)
  | 12, _, _ => exact gl_at 323 rfl
  | 13, _, _ => exact gl_at 344 rfl
  | 14, _, _ => exact gl_at 365 rfl
  | 15, _, _ => exact gl_at 389 rfl
  | 16, _, _ => exact gl_at 414 rfl
  | 17, _, _ => exact gl_at 438 rfl
  | 18, _, _ => exact gl_at 463 rfl
  | 19, _, _ => exact gl_at 491 rfl
  | 20, _, _ => exact gl_at 517 rfl
  | 21, _, _ => exact gl_at 545 rfl
  | 22, _, _ => exact gl_at 572 rfl
  | 23, _, _ => exact gl_at 602 rfl
  | j + 24, hj, _ => exact absurd hj (by unfold strN; omega)
set_option maxRecDepth 100000 in
theorem gv_ne12 : ∀ j, j < strN → 12 < j → Cond.not (Cond.eq (tmS 12) (tmS j)) ∈ flatC (Jvm.Cond.and given_1 narrow_1) := by
  intro j hj hij
  match j, hj, hij with
  | 0, _, h => exact absurd h (by omega)
  | 1, _, h => exact absurd h (by omega)
  | 2, _, h => exact absurd h (by omega)
  | 3, _, h => exact absurd h (by omega)
  | 4, _, h => exact absurd h (by omega)
  | 5, _, h => exact absurd h (by omega)
  | 6, _, h => exact absurd h (by omega)
  | 7, _, h => exact absurd h (by omega)
  | 8, _, h => exact absurd h (by omega)
  | 9, _, h => exact absurd h (by omega)
  | 10, _, h => exact absurd h (by omega)
  | 11, _, h => exact absurd h (by omega)
  | 12, _, h => exact absurd h (by omega)
  | 13, _, _ => exact gl_at 345 rfl
  | 14, _, _ => exact gl_at 366 rfl
  | 15, _, _ => exact gl_at 390 rfl
  | 16, _, _ => exact gl_at 415 rfl
  | 17, _, _ => exact gl_at 439 rfl
  | 18, _, _ => exact gl_at 464 rfl
  | 19, _, _ => exact gl_at 492 rfl
  | 20, _, _ => exact gl_at 518 rfl
  | 21, _, _ => exact gl_at 546 rfl
  | 22, _, _ => exact gl_at 573 rfl
  | 23, _, _ => exact gl_at 603 rfl
  | j + 24, hj, _ => exact absurd hj (by unfold strN; omega)
set_option maxRecDepth 100000 in
theorem gv_ne13 : ∀ j, j < strN → 13 < j → Cond.not (Cond.eq (tmS 13) (tmS j)) ∈ flatC (Jvm.Cond.and given_1 narrow_1) := by
  intro j hj hij
  match j, hj, hij with
  | 0, _, h => exact absurd h (by omega)
  | 1, _, h => exact absurd h (by omega)
  | 2, _, h => exact absurd h (by omega)
  | 3, _, h => exact absurd h (by omega)
  | 4, _, h => exact absurd h (by omega)
  | 5, _, h => exact absurd h (by omega)
  | 6, _, h => exact absurd h (by omega)
  | 7, _, h => exact absurd h (by omega)
  | 8, _, h => exact absurd h (by omega)
  | 9, _, h => exact absurd h (by omega)
  | 10, _, h => exact absurd h (by omega)
  | 11, _, h => exact absurd h (by omega)
  | 12, _, h => exact absurd h (by omega)
  | 13, _, h => exact absurd h (by omega)
  | 14, _, _ => exact gl_at 367 rfl
  | 15, _, _ => exact gl_at 391 rfl
  | 16, _, _ => exact gl_at 416 rfl
  | 17, _, _ => exact gl_at 440 rfl
  | 18, _, _ => exact gl_at 465 rfl
  | 19, _, _ => exact gl_at 493 rfl
  | 20, _, _ => exact gl_at 519 rfl
  | 21, _, _ => exact gl_at 547 rfl
  | 22, _, _ => exact gl_at 574 rfl
  | 23, _, _ => exact gl_at 604 rfl
  | j + 24, hj, _ => exact absurd hj (by unfold strN; omega)
set_option maxRecDepth 100000 in
theorem gv_ne14 : ∀ j, j < strN → 14 < j → Cond.not (Cond.eq (tmS 14) (tmS j)) ∈ flatC (Jvm.Cond.and given_1 narrow_1) := by
  intro j hj hij
  match j, hj, hij with
  | 0, _, h => exact absurd h (by omega)
  | 1, _, h => exact absurd h (by omega)
  | 2, _, h => exact absurd h (by omega)
  | 3, _, h => exact absurd h (by omega)
  | 4, _, h => exact absurd h (by omega)
  | 5, _, h => exact absurd h (by omega)
  | 6, _, h => exact absurd h (by omega)
  | 7, _, h => exact absurd h (by omega)
  | 8, _, h => exact absurd h (by omega)
  | 9, _, h => exact absurd h (by omega)
  | 10, _, h => exact absurd h (by omega)
  | 11, _, h => exact absurd h (by omega)
  | 12, _, h => exact absurd h (by omega)
  | 13, _, h => exact absurd h (by omega)
  | 14, _, h => exact absurd h (by omega)
  | 15, _, _ => exact gl_at 392 rfl
  | 16, _, _ => exact gl_at 417 rfl
  | 17, _, _ => exact gl_at 441 rfl
  | 18, _, _ => exact gl_at 466 rfl
  | 19, _, _ => exact gl_at 494 rfl
  | 20, _, _ => exact gl_at 520 rfl
  | 21, _, _ => exact gl_at 548 rfl
  | 22, _, _ => exact gl_at 575 rfl
  | 23, _, _ => exact gl_at 605 rfl
  | j + 24, hj, _ => exact absurd hj (by unfold strN; omega)
set_option maxRecDepth 100000 in
theorem gv_ne15 : ∀ j, j < strN → 15 < j → Cond.not (Cond.eq (tmS 15) (tmS j)) ∈ flatC (Jvm.Cond.and given_1 narrow_1) := by
  intro j hj hij
  match j, hj, hij with
  | 0, _, h => exact absurd h (by omega)
  | 1, _, h => exact absurd h (by omega)
  | 2, _, h => exact absurd h (by omega)
  | 3, _, h => exact absurd h (by omega)
  | 4, _, h => exact absurd h (by omega)
  | 5, _, h => exact absurd h (by omega)
  | 6, _, h => exact absurd h (by omega)
  | 7, _, h => exact absurd h (by omega)
  | 8, _, h => exact absurd h (by omega)
  | 9, _, h => exact absurd h (by omega)
  | 10, _, h => exact absurd h (by omega)
  | 11, _, h => exact absurd h (by omega)
  | 12, _, h => exact absurd h (by omega)
  | 13, _, h => exact absurd h (by omega)
  | 14, _, h => exact absurd h (by omega)
  | 15, _, h => exact absurd h (by omega)
  | 16, _, _ => exact gl_at 418 rfl
  | 17, _, _ => exact gl_at 442 rfl
  | 18, _, _ => exact gl_at 467 rfl
  | 19, _, _ => exact gl_at 495 rfl
  | 20, _, _ => exact gl_at 521 rfl
  | 21, _, _ => exact gl_at 549 rfl
  | 22, _, _ => exact gl_at 576 rfl
  | 23, _, _ => exact gl_at 606 rfl
  | j + 24, hj, _ => exact absurd hj (by unfold strN; omega)
set_option maxRecDepth 100000 in
theorem gv_ne16 : ∀ j, j < strN → 16 < j → Cond.not (Cond.eq (tmS 16) (tmS j)) ∈ flatC (Jvm.Cond.and given_1 narrow_1) := by
  intro j hj hij
  match j, hj, hij with
  | 0, _, h => exact absurd h (by omega)
  | 1, _, h => exact absurd h (by omega)
  | 2, _, h => exact absurd h (by omega)
  | 3, _, h => exact absurd h (by omega)
  | 4, _, h => exact absurd h (by omega)
  | 5, _, h => exact absurd h (by omega)
  | 6, _, h => exact absurd h (by omega)
  | 7, _, h => exact absurd h (by omega)
  | 8, _, h => exact absurd h (by omega)
  | 9, _, h => exact absurd h (by omega)
  | 10, _, h => exact absurd h (by omega)
  | 11, _, h => exact absurd h (by omega)
  | 12, _, h => exact absurd h (by omega)
  | 13, _, h => exact absurd h (by omega)
  | 14, _, h => exact absurd h (by omega)
  | 15, _, h => exact absurd h (by omega)
  | 16, _, h => exact absurd h (by omega)
  | 17, _, _ => exact gl_at 443 rfl
  | 18, _, _ => exact gl_at 468 rfl
  | 19, _, _ => exact gl_at 496 rfl
  | 20, _, _ => exact gl_at 522 rfl
  | 21, _, _ => exact gl_at 550 rfl
  | 22, _, _ => exact gl_at 577 rfl
  | 23, _, _ => exact gl_at 607 rfl
  | j + 24, hj, _ => exact absurd hj (by unfold strN; omega)
set_option maxRecDepth 100000 in
theorem gv_ne17 : ∀ j, j < strN → 17 < j → Cond.not (Cond.eq (tmS 17) (tmS j)) ∈ flatC (Jvm.Cond.and given_1 narrow_1) := by
  intro j hj hij
  match j, hj, hij with
  | 0, _, h => exact absurd h (by omega)
  | 1, _, h => exact absurd h (by omega)
  | 2, _, h => exact absurd h (by omega)
  | 3, _, h => exact absurd h (by omega)
  | 4, _, h => exact absurd h (by omega)
  | 5, _, h => exact absurd h (by omega)
  | 6, _, h => exact absurd h (by omega)
  | 7, _, h => exact absurd h (by omega)
  | 8, _, h => exact absurd h (by omega)
  | 9, _, h => exact absurd h (by omega)
  | 10, _, h => exact absurd h (by omega)
  | 11, _, h => exact absurd h (by omega)
  | 12, _, h => exact absurd h (by omega)
  | 13, _, h => exact absurd h (by omega)
  | 14, _, h => exact absurd h (by omega)
  | 15, _, h => exact absurd h (by omega)
  | 16, _, h => exact absurd h (by omega)
  | 17, _, h => exact absurd h (by omega)
  | 18, _, _ => exact gl_at 469 rfl
  | 19, _, _ => exact gl_at 497 rfl
  | 20, _, _ => exact gl_at 523 rfl
  | 21, _, _ => exact gl_at 551 rfl
  | 22, _, _ => exact gl_at 578 rfl
  | 23, _, _ => exact gl_at 608 rfl
  | j + 24, hj, _ => exact absurd hj (by unfold strN; omega)
set_option maxRecDepth 100000 in
theorem gv_ne18 : ∀ j, j < strN → 18 < j → Cond.not (Cond.eq (tmS 18) (tmS j)) ∈ flatC (Jvm.Cond.and given_1 narrow_1) := by
  intro j hj hij
  match j, hj, hij with
  | 0, _, h => exact absurd h (by omega)
  | 1, _, h => exact absurd h (by omega)
  | 2, _, h => exact absurd h (by omega)
  | 3, _, h => exact absurd h (by omega)
  | 4, _, h => exact absurd h (by omega)
  | 5, _, h => exact absurd h (by omega)
  | 6, _, h => exact absurd h (by omega)
  | 7, _, h => exact absurd h (by omega)
  | 8, _, h => exact absurd h (by omega)
  | 9, _, h => exact absurd h (by omega)
  | 10, _, h => exact absurd h (by omega)
  | 11, _, h => exact absurd h (by omega)
  | 12, _, h => exact absurd h (by omega)
  | 13, _, h => exact absurd h (by omega)
  | 14, _, h => exact absurd h (by omega)
  | 15, _, h => exact absurd h (by omega)
  | 16, _, h => exact absurd h (by omega)
  | 17, _, h => exact absurd h (by omega)
  | 18, _, h => exact absurd h (by omega)
  | 19, _, _ => exact gl_at 498 rfl
  | 20, _, _ => exact gl_at 524 rfl
  | 21, _, _ => exact gl_at 552 rfl
  | 22, _, _ => exact gl_at 579 rfl
  | 23, _, _ => exact gl_at 609 rfl
  | j + 24, hj, _ => exact absurd hj (by unfold strN; omega)
set_option maxRecDepth 100000 in
theorem gv_ne19 : ∀ j, j < strN → 19 < j → Cond.not (Cond.eq (tmS 19) (tmS j)) ∈ flatC (Jvm.Cond.and given_1 narrow_1) := by
  intro j hj hij
  match j, hj, hij with
  | 0, _, h => exact absurd h (by omega)
  | 1, _, h => exact absurd h (by omega)
  | 2, _, h => exact absurd h (by omega)
  | 3, _, h => exact absurd h (by omega)
  | 4, _, h => exact absurd h (by omega)
  | 5, _, h => exact absurd h (by omega)
  | 6, _, h => exact absurd h (by omega)
  | 7, _, h => exact absurd h (by omega)
  | 8, _, h => exact absurd h (by omega)
  | 9, _, h => exact absurd h (by omega)
  | 10, _, h => exact absurd h (by omega)
  | 11, _, h => exact absurd h (by omega)
  | 12, _, h => exact absurd h (by omega)
  | 13, _, h => exact absurd h (by omega)
  | 14, _, h => exact absurd h (by omega)
  | 15, _, h => exact absurd h (by omega)
  | 16, _, h => exact absurd h (by omega)
  | 17, _, h => exact absurd h (by omega)
  | 18, _, h => exact absurd h (by omega)
  | 19, _, h => exact absurd h (by omega)
  | 20, _, _ => exact gl_at 525 rfl
  | 21, _, _ => exact gl_at 553 rfl
  | 22, _, _ => exact gl_at 580 rfl
  | 23, _, _ => exact gl_at 610 rfl
  | j + 24, hj, _ => exact absurd hj (by unfold strN; omega)
set_option maxRecDepth 100000 in
theorem gv_ne20 : ∀ j, j < strN → 20 < j → Cond.not (Cond.eq (tmS 20) (tmS j)) ∈ flatC (Jvm.Cond.and given_1 narrow_1) := by
  intro j hj hij
  match j, hj, hij with
  | 0, _, h => exact absurd h (by omega)
  | 1, _, h => exact absurd h (by omega)
  | 2, _, h => exact absurd h (by omega)
  | 3, _, h => exact absurd h (by omega)
  | 4, _, h => exact absurd h (by omega)
  | 5, _, h => exact absurd h (by omega)
  | 6, _, h => exact absurd h (by omega)
  | 7, _, h => exact absurd h (by omega)
  | 8, _, h => exact absurd h (by omega)
  | 9, _, h => exact absurd h (by omega)
  | 10, _, h => exact absurd h (by omega)
  | 11, _, h => exact absurd h (by omega)
  | 12, _, h => exact absurd h (by omega)
  | 13, _, h => exact absurd h (by omega)
  | 14, _, h => exact absurd h (by omega)
  | 15, _, h => exact absurd h (by omega)
  | 16, _, h => exact absurd h (by omega)
  | 17, _, h => exact absurd h (by omega)
  | 18, _, h => exact absurd h (by omega)
  | 19, _, h => exact absurd h (by omega)
  | 20, _, h => exact absurd h (by omega)
  | 21, _, _ => exact gl_at 554 rfl
  | 22, _, _ => exact gl_at 581 rfl
  | 23, _, _ => exact gl_at 611 rfl
  | j + 24, hj, _ => exact absurd hj (by unfold strN; omega)
set_option maxRecDepth 100000 in
theorem gv_ne21 : ∀ j, j < strN → 21 < j → Cond.not (Cond.eq (tmS 21) (tmS j)) ∈ flatC (Jvm.Cond.and given_1 narrow_1) := by
  intro j hj hij
  match j, hj, hij with
  | 0, _, h => exact absurd h (by omega)
  | 1, _, h => exact absurd h (by omega)
  | 2, _, h => exact absurd h (by omega)
  | 3, _, h => exact absurd h (by omega)
  | 4, _, h => exact absurd h (by omega)
  | 5, _, h => exact absurd h (by omega)
  | 6, _, h => exact absurd h (by omega)
  | 7, _, h => exact absurd h (by omega)
  | 8, _, h => exact absurd h (by omega)
  | 9, _, h => exact absurd h (by omega)
  | 10, _, h => exact absurd h (by omega)
  | 11, _, h => exact absurd h (by omega)
  | 12, _, h => exact absurd h (by omega)
  | 13, _, h => exact absurd h (by omega)
  | 14, _, h => exact absurd h (by omega)
  | 15, _, h => exact absurd h (by omega)
  | 16, _, h => exact absurd h (by omega)
  | 17, _, h => exact absurd h (by omega)
  | 18, _, h => exact absurd h (by omega)
  | 19, _, h => exact absurd h (by omega)
  | 20, _, h => exact absurd h (by omega)
  | 21, _, h => exact absurd h (by omega)
  | 22, _, _ => exact gl_at 582 rfl
  | 23, _, _ => exact gl_at 612 rfl
  | j + 24, hj, _ => exact absurd hj (by unfold strN; omega)
set_option maxRecDepth 100000 in
theorem gv_ne22 : ∀ j, j < strN → 22 < j → Cond.not (Cond.eq (tmS 22) (tmS j)) ∈ flatC (Jvm.Cond.and given_1 narrow_1) := by
  intro j hj hij
  match j, hj, hij with
  | 0, _, h => exact absurd h (by omega)
  | 1, _, h => exact absurd h (by omega)
  | 2, _, h => exact absurd h (by omega)
  | 3, _, h => exact absurd h (by omega)
  | 4, _, h => exact absurd h (by omega)
  | 5, _, h => exact absurd h (by omega)
  | 6, _, h => exact absurd h (by omega)
  | 7, _, h => exact absurd h (by omega)
  | 8, _, h => exact absurd h (by omega)
  | 9, _, h => exact absurd h (by omega)
  | 10, _, h => exact absurd h (by omega)
  | 11, _, h => exact absurd h (by omega)
  | 12, _, h => exact absurd h (by omega)
  | 13, _, h => exact absurd h (by omega)
  | 14, _, h => exact absurd h (by omega)
  | 15, _, h => exact absurd h (by omega)
  | 16, _, h => exact absurd h (by omega)
  | 17, _, h => exact absurd h (by omega)
  | 18, _, h => exact absurd h (by omega)
  | 19, _, h => exact absurd h (by omega)
  | 20, _, h => exact absurd h (by omega)
  | 21, _, h => exact absurd h (by omega)
  | 22, _, h => exact absurd h (by omega)
  | 23, _, _ => exact gl_at 613 rfl
  | j + 24, hj, _ => exact absurd hj (by unfold strN; omega)
set_option maxRecDepth 100000 in
theorem gv_ne23 : ∀ j, j < strN → 23 < j → Cond.not (Cond.eq (tmS 23) (tmS j)) ∈ flatC (Jvm.Cond.and given_1 narrow_1) := by
  intro j hj hij
  match j, hj, hij with
  | 0, _, h => exact absurd h (by omega)
  | 1, _, h => exact absurd h (by omega)
  | 2, _, h => exact absurd h (by omega)
  | 3, _, h => exact absurd h (by omega)
  | 4, _, h => exact absurd h (by omega)
  | 5, _, h => exact absurd h (by omega)
  | 6, _, h => exact absurd h (by omega)
  | 7, _, h => exact absurd h (by omega)
  | 8, _, h => exact absurd h (by omega)
  | 9, _, h => exact absurd h (by omega)
  | 10, _, h => exact absurd h (by omega)
  | 11, _, h => exact absurd h (by omega)
  | 12, _, h => exact absurd h (by omega)
  | 13, _, h => exact absurd h (by omega)
  | 14, _, h => exact absurd h (by omega)
  | 15, _, h => exact absurd h (by omega)
  | 16, _, h => exact absurd h (by omega)
  | 17, _, h => exact absurd h (by omega)
  | 18, _, h => exact absurd h (by omega)
  | 19, _, h => exact absurd h (by omega)
  | 20, _, h => exact absurd h (by omega)
  | 21, _, h => exact absurd h (by omega)
  | 22, _, h => exact absurd h (by omega)
  | 23, _, h => exact absurd h (by omega)
  | j + 24, hj, _ => exact absurd hj (by unfold strN; omega)
set_option maxRecDepth 100000 in
theorem gv_ne : ∀ i, i < strN → ∀ j, j < strN → i < j → Cond.not (Cond.eq (tmS i) (tmS j)) ∈ flatC (Jvm.Cond.and given_1 narrow_1) := by
  intro i hi
  match i, hi with
  | 0, _ => exact gv_ne0
  | 1, _ => exact gv_ne1
  | 2, _ => exact gv_ne2
  | 3, _ => exact gv_ne3
  | 4, _ => exact gv_ne4
  | 5, _ => exact gv_ne5
  | 6, _ => exact gv_ne6
  | 7, _ => exact gv_ne7
  | 8, _ => exact gv_ne8
  | 9, _ => exact gv_ne9
  | 10, _ => exact gv_ne10
  | 11, _ => exact gv_ne11
  | 12, _ => exact gv_ne12
  | 13, _ => exact gv_ne13
  | 14, _ => exact gv_ne14
  | 15, _ => exact gv_ne15
  | 16, _ => exact gv_ne16
  | 17, _ => exact gv_ne17
  | 18, _ => exact gv_ne18
  | 19, _ => exact gv_ne19
  | 20, _ => exact gv_ne20
  | 21, _ => exact gv_ne21
  | 22, _ => exact gv_ne22
  | 23, _ => exact gv_ne23
  | i + 24, hi => exact absurd hi (by unfold strN; omega)
set_option maxRecDepth 100000 in
theorem gv_he : ∀ j, j < 7 → Cond.eq (.elem (.static "Encores" "HEAP" "[I") (.int (Int32.ofNat j))) (.int (heapL.getD j 0)) ∈ flatC (Jvm.Cond.and given_1 narrow_1) := by
  intro j hj
  match j, hj with
  | 0, _ => exact gl_at 12 rfl
  | 1, _ => exact gl_at 13 rfl
  | 2, _ => exact gl_at 14 rfl
  | 3, _ => exact gl_at 15 rfl
  | 4, _ => exact gl_at 16 rfl
  | 5, _ => exact gl_at 17 rfl
  | 6, _ => exact gl_at 18 rfl
  | j + 7, hj => exact absurd hj (by omega)
set_option maxRecDepth 100000 in
theorem gv_cs : Cond.eq (.static "java/lang/String" "COMPACT_STRINGS" "Z") (.int 1) ∈ flatC (Jvm.Cond.and given_1 narrow_1) := gl_at 4 rfl
set_option maxRecDepth 100000 in
theorem gv_fm : Cond.isRef (.static "jdk/internal/util/Preconditions" "SIOOBE_FORMATTER" "Ljava/util/function/BiFunction;") ∈ flatC (Jvm.Cond.and given_1 narrow_1) := gl_at 5 rfl
set_option maxRecDepth 100000 in
theorem gv_ha : Cond.arrayOf (.static "Encores" "HEAP" "[I") .int ∈ flatC (Jvm.Cond.and given_1 narrow_1) := gl_at 10 rfl
set_option maxRecDepth 100000 in
theorem gv_hl : Cond.eq (.length (.static "Encores" "HEAP" "[I")) (.int 7) ∈ flatC (Jvm.Cond.and given_1 narrow_1) := gl_at 11 rfl
