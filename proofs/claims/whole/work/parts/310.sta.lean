def FL : List Cond := flatC (Jvm.Cond.and given_1 narrow_1)
theorem nt_156 : Jvm.Cond.arrayClass Jvm.ClassFile.FieldType.int ∈ lw_tbl := List.mem_of_getElem? (i := 156) (by decide +kernel)
theorem nt_193 : Jvm.Cond.arrayClass Jvm.ClassFile.FieldType.boolean ∈ lw_tbl := List.mem_of_getElem? (i := 193) (by decide +kernel)
theorem nt_286 : Jvm.Cond.arrayClass Jvm.ClassFile.FieldType.char ∈ lw_tbl := List.mem_of_getElem? (i := 286) (by decide +kernel)
theorem nt_164 : Jvm.Cond.arrayOver (Jvm.ClassFile.FieldType.object "StoneQuarry$QuarryState") ∈ lw_tbl := List.mem_of_getElem? (i := 164) (by decide +kernel)
theorem nt_294 : Jvm.Cond.arrayOver (Jvm.ClassFile.FieldType.object "StoneQuarry$Command") ∈ lw_tbl := List.mem_of_getElem? (i := 294) (by decide +kernel)
theorem nt_1795 : Jvm.Cond.arrayClass Jvm.ClassFile.FieldType.long ∈ lw_tbl := List.mem_of_getElem? (i := 1795) (by decide +kernel)
theorem nt_1796 : Jvm.Cond.arrayClass Jvm.ClassFile.FieldType.double ∈ lw_tbl := List.mem_of_getElem? (i := 1796) (by decide +kernel)
theorem nt_895 : Jvm.Cond.instantiable "java/lang/String" (4 : Nat) ∈ lw_tbl := List.mem_of_getElem? (i := 895) (by decide +kernel)
theorem nt_877 : Jvm.Cond.instantiable "java/lang/ArrayIndexOutOfBoundsException" (6 : Nat) ∈ lw_tbl := List.mem_of_getElem? (i := 877) (by decide +kernel)
theorem nt_195 : Jvm.Cond.instantiable "StoneQuarry$Blast" (5 : Nat) ∈ lw_tbl := List.mem_of_getElem? (i := 195) (by decide +kernel)
theorem nt_251 : Jvm.Cond.instantiable "StoneQuarry$Blocks" (1 : Nat) ∈ lw_tbl := List.mem_of_getElem? (i := 251) (by decide +kernel)
theorem nt_288 : Jvm.Cond.instantiable "StoneQuarry$CommandText" (6 : Nat) ∈ lw_tbl := List.mem_of_getElem? (i := 288) (by decide +kernel)
theorem nt_261 : Jvm.Cond.instantiable "StoneQuarry$Cuts" (2 : Nat) ∈ lw_tbl := List.mem_of_getElem? (i := 261) (by decide +kernel)
theorem nt_158 : Jvm.Cond.instantiable "StoneQuarry$History" (3 : Nat) ∈ lw_tbl := List.mem_of_getElem? (i := 158) (by decide +kernel)
theorem nt_274 : Jvm.Cond.instantiable "StoneQuarry$Line" (2 : Nat) ∈ lw_tbl := List.mem_of_getElem? (i := 274) (by decide +kernel)
theorem nt_114 : Jvm.Cond.instantiable "StoneQuarry$QuarryState" (9 : Nat) ∈ lw_tbl := List.mem_of_getElem? (i := 114) (by decide +kernel)
theorem nt_232 : Jvm.Cond.instantiable "StoneQuarry$Slabs" (4 : Nat) ∈ lw_tbl := List.mem_of_getElem? (i := 232) (by decide +kernel)
theorem nt_219 : Jvm.Cond.instantiable "StoneQuarry$Tunnels" (2 : Nat) ∈ lw_tbl := List.mem_of_getElem? (i := 219) (by decide +kernel)
theorem nt_178 : Jvm.Cond.instantiable "StoneQuarry$Veins" (3 : Nat) ∈ lw_tbl := List.mem_of_getElem? (i := 178) (by decide +kernel)
theorem nt_106 : Jvm.Cond.instantiable "StoneQuarry" (15 : Nat) ∈ lw_tbl := List.mem_of_getElem? (i := 106) (by decide +kernel)
theorem nt_1345 : Jvm.Cond.instantiable "StoneQuarryModel" (25 : Nat) ∈ lw_tbl := List.mem_of_getElem? (i := 1345) (by decide +kernel)
theorem nt_691 : Jvm.Cond.stringRef "StoneQuarry" (98 : Nat) "no such cell, or hardness out of range" ∈ lw_tbl := List.mem_of_getElem? (i := 691) (by decide +kernel)
theorem nf_242 : FL[244]? = some (Jvm.Cond.exactly (Jvm.Term.string "StoneQuarry" (98 : Nat)) "java/lang/String") := by decide +kernel
theorem nt_727 : Jvm.Cond.stringRef "StoneQuarry" (105 : Nat) "the cell is open" ∈ lw_tbl := List.mem_of_getElem? (i := 727) (by decide +kernel)
theorem nf_284 : FL[286]? = some (Jvm.Cond.exactly (Jvm.Term.string "StoneQuarry" (105 : Nat)) "java/lang/String") := by decide +kernel
theorem nt_772 : Jvm.Cond.stringRef "StoneQuarry" (122 : Nat) "no such cell" ∈ lw_tbl := List.mem_of_getElem? (i := 772) (by decide +kernel)
theorem nf_304 : FL[306]? = some (Jvm.Cond.exactly (Jvm.Term.string "StoneQuarry" (122 : Nat)) "java/lang/String") := by decide +kernel
theorem nt_773 : Jvm.Cond.stringRef "StoneQuarry" (124 : Nat) "the cell is open, contains a charge or cannot be reached" ∈ lw_tbl := List.mem_of_getElem? (i := 773) (by decide +kernel)
theorem nf_320 : FL[322]? = some (Jvm.Cond.exactly (Jvm.Term.string "StoneQuarry" (124 : Nat)) "java/lang/String") := by decide +kernel
theorem nt_783 : Jvm.Cond.stringRef "StoneQuarry" (128 : Nat) "too few coins" ∈ lw_tbl := List.mem_of_getElem? (i := 783) (by decide +kernel)
theorem nf_380 : FL[382]? = some (Jvm.Cond.exactly (Jvm.Term.string "StoneQuarry" (128 : Nat)) "java/lang/String") := by decide +kernel
theorem nt_823 : Jvm.Cond.stringRef "StoneQuarry" (151 : Nat) "hardness out of range" ∈ lw_tbl := List.mem_of_getElem? (i := 823) (by decide +kernel)
theorem nf_397 : FL[399]? = some (Jvm.Cond.exactly (Jvm.Term.string "StoneQuarry" (151 : Nat)) "java/lang/String") := by decide +kernel
theorem nt_867 : Jvm.Cond.stringRef "StoneQuarry" (163 : Nat) "no such cell, or strength out of range" ∈ lw_tbl := List.mem_of_getElem? (i := 867) (by decide +kernel)
theorem nf_422 : FL[424]? = some (Jvm.Cond.exactly (Jvm.Term.string "StoneQuarry" (163 : Nat)) "java/lang/String") := by decide +kernel
theorem nt_868 : Jvm.Cond.stringRef "StoneQuarry" (165 : Nat) "too many charges, or no free rock cell" ∈ lw_tbl := List.mem_of_getElem? (i := 868) (by decide +kernel)
theorem nf_464 : FL[466]? = some (Jvm.Cond.exactly (Jvm.Term.string "StoneQuarry" (165 : Nat)) "java/lang/String") := by decide +kernel
theorem nt_914 : Jvm.Cond.stringRef "StoneQuarry" (175 : Nat) "no such charge" ∈ lw_tbl := List.mem_of_getElem? (i := 914) (by decide +kernel)
theorem nf_506 : FL[508]? = some (Jvm.Cond.exactly (Jvm.Term.string "StoneQuarry" (175 : Nat)) "java/lang/String") := by decide +kernel
theorem nt_1004 : Jvm.Cond.stringRef "StoneQuarry" (208 : Nat) "no charges" ∈ lw_tbl := List.mem_of_getElem? (i := 1004) (by decide +kernel)
theorem nf_524 : FL[526]? = some (Jvm.Cond.exactly (Jvm.Term.string "StoneQuarry" (208 : Nat)) "java/lang/String") := by decide +kernel
theorem nt_1022 : Jvm.Cond.stringRef "StoneQuarry" (233 : Nat) "length or price out of range" ∈ lw_tbl := List.mem_of_getElem? (i := 1022) (by decide +kernel)
theorem nf_538 : FL[540]? = some (Jvm.Cond.exactly (Jvm.Term.string "StoneQuarry" (233 : Nat)) "java/lang/String") := by decide +kernel
theorem nt_1035 : Jvm.Cond.stringRef "StoneQuarry" (238 : Nat) "length out of range" ∈ lw_tbl := List.mem_of_getElem? (i := 1035) (by decide +kernel)
theorem nf_570 : FL[572]? = some (Jvm.Cond.exactly (Jvm.Term.string "StoneQuarry" (238 : Nat)) "java/lang/String") := by decide +kernel
theorem nt_1073 : Jvm.Cond.stringRef "StoneQuarry" (255 : Nat) "too little stone" ∈ lw_tbl := List.mem_of_getElem? (i := 1073) (by decide +kernel)
theorem nf_593 : FL[595]? = some (Jvm.Cond.exactly (Jvm.Term.string "StoneQuarry" (255 : Nat)) "java/lang/String") := by decide +kernel
theorem nt_1104 : Jvm.Cond.stringRef "StoneQuarry" (275 : Nat) "all cells are open" ∈ lw_tbl := List.mem_of_getElem? (i := 1104) (by decide +kernel)
theorem nf_613 : FL[615]? = some (Jvm.Cond.exactly (Jvm.Term.string "StoneQuarry" (275 : Nat)) "java/lang/String") := by decide +kernel
theorem nt_1117 : Jvm.Cond.stringRef "StoneQuarry" (282 : Nat) "no such row" ∈ lw_tbl := List.mem_of_getElem? (i := 1117) (by decide +kernel)
theorem nf_635 : FL[637]? = some (Jvm.Cond.exactly (Jvm.Term.string "StoneQuarry" (282 : Nat)) "java/lang/String") := by decide +kernel
theorem nt_1161 : Jvm.Cond.stringRef "StoneQuarry" (293 : Nat) "no such character" ∈ lw_tbl := List.mem_of_getElem? (i := 1161) (by decide +kernel)
theorem nf_650 : FL[652]? = some (Jvm.Cond.exactly (Jvm.Term.string "StoneQuarry" (293 : Nat)) "java/lang/String") := by decide +kernel
theorem nt_1178 : Jvm.Cond.stringRef "StoneQuarry" (312 : Nat) "the text buffer is full" ∈ lw_tbl := List.mem_of_getElem? (i := 1178) (by decide +kernel)
theorem nf_671 : FL[673]? = some (Jvm.Cond.exactly (Jvm.Term.string "StoneQuarry" (312 : Nat)) "java/lang/String") := by decide +kernel
theorem nt_1278 : Jvm.Cond.stringRef "StoneQuarry" (324 : Nat) "the text is malformed" ∈ lw_tbl := List.mem_of_getElem? (i := 1278) (by decide +kernel)
theorem nf_698 : FL[700]? = some (Jvm.Cond.exactly (Jvm.Term.string "StoneQuarry" (324 : Nat)) "java/lang/String") := by decide +kernel
theorem nt_1303 : Jvm.Cond.stringRef "StoneQuarry" (340 : Nat) "a command fails" ∈ lw_tbl := List.mem_of_getElem? (i := 1303) (by decide +kernel)
theorem nf_723 : FL[725]? = some (Jvm.Cond.exactly (Jvm.Term.string "StoneQuarry" (340 : Nat)) "java/lang/String") := by decide +kernel
theorem nt_1311 : Jvm.Cond.stringRef "StoneQuarry" (342 : Nat) "no text was malformed" ∈ lw_tbl := List.mem_of_getElem? (i := 1311) (by decide +kernel)
theorem nf_742 : FL[744]? = some (Jvm.Cond.exactly (Jvm.Term.string "StoneQuarry" (342 : Nat)) "java/lang/String") := by decide +kernel
theorem nt_1319 : Jvm.Cond.stringRef "StoneQuarry" (344 : Nat) "no command failed" ∈ lw_tbl := List.mem_of_getElem? (i := 1319) (by decide +kernel)
theorem nf_767 : FL[769]? = some (Jvm.Cond.exactly (Jvm.Term.string "StoneQuarry" (344 : Nat)) "java/lang/String") := by decide +kernel
theorem nt_1327 : Jvm.Cond.stringRef "StoneQuarry" (349 : Nat) "nothing can be undone" ∈ lw_tbl := List.mem_of_getElem? (i := 1327) (by decide +kernel)
theorem nf_788 : FL[790]? = some (Jvm.Cond.exactly (Jvm.Term.string "StoneQuarry" (349 : Nat)) "java/lang/String") := by decide +kernel
theorem nt_1339 : Jvm.Cond.stringRef "StoneQuarry" (358 : Nat) "there is no snapshot" ∈ lw_tbl := List.mem_of_getElem? (i := 1339) (by decide +kernel)
theorem nf_813 : FL[815]? = some (Jvm.Cond.exactly (Jvm.Term.string "StoneQuarry" (358 : Nat)) "java/lang/String") := by decide +kernel
theorem nt_1834 : Jvm.Cond.stringRef "StoneQuarry$Command" (56 : Nat) "rock" ∈ lw_tbl := List.mem_of_getElem? (i := 1834) (by decide +kernel)
theorem nf_837 : FL[839]? = some (Jvm.Cond.exactly (Jvm.Term.string "StoneQuarry$Command" (56 : Nat)) "java/lang/String") := by decide +kernel
theorem nt_1835 : Jvm.Cond.stringRef "StoneQuarry$Command" (62 : Nat) "charge" ∈ lw_tbl := List.mem_of_getElem? (i := 1835) (by decide +kernel)
theorem nf_845 : FL[847]? = some (Jvm.Cond.exactly (Jvm.Term.string "StoneQuarry$Command" (62 : Nat)) "java/lang/String") := by decide +kernel
theorem nt_1836 : Jvm.Cond.stringRef "StoneQuarry$Command" (65 : Nat) "remove" ∈ lw_tbl := List.mem_of_getElem? (i := 1836) (by decide +kernel)
theorem nf_855 : FL[857]? = some (Jvm.Cond.exactly (Jvm.Term.string "StoneQuarry$Command" (65 : Nat)) "java/lang/String") := by decide +kernel
theorem nt_1837 : Jvm.Cond.stringRef "StoneQuarry$Command" (68 : Nat) "ignite" ∈ lw_tbl := List.mem_of_getElem? (i := 1837) (by decide +kernel)
theorem nf_865 : FL[867]? = some (Jvm.Cond.exactly (Jvm.Term.string "StoneQuarry$Command" (68 : Nat)) "java/lang/String") := by decide +kernel
theorem nt_1838 : Jvm.Cond.stringRef "StoneQuarry$Command" (71 : Nat) "dig" ∈ lw_tbl := List.mem_of_getElem? (i := 1838) (by decide +kernel)
theorem nf_875 : FL[877]? = some (Jvm.Cond.exactly (Jvm.Term.string "StoneQuarry$Command" (71 : Nat)) "java/lang/String") := by decide +kernel
theorem nt_1839 : Jvm.Cond.stringRef "StoneQuarry$Command" (74 : Nat) "price" ∈ lw_tbl := List.mem_of_getElem? (i := 1839) (by decide +kernel)
theorem nf_882 : FL[884]? = some (Jvm.Cond.exactly (Jvm.Term.string "StoneQuarry$Command" (74 : Nat)) "java/lang/String") := by decide +kernel
theorem nt_1840 : Jvm.Cond.stringRef "StoneQuarry$Command" (77 : Nat) "sell" ∈ lw_tbl := List.mem_of_getElem? (i := 1840) (by decide +kernel)
theorem nf_891 : FL[893]? = some (Jvm.Cond.exactly (Jvm.Term.string "StoneQuarry$Command" (77 : Nat)) "java/lang/String") := by decide +kernel
theorem nf_99 : FL[101]? = some (Jvm.Cond.not (Jvm.Cond.castable "java/lang/IllegalStateException" "java/lang/IllegalArgumentException")) := by decide +kernel
theorem nf_100 : FL[102]? = some (Jvm.Cond.not (Jvm.Cond.castable "java/lang/UnsupportedOperationException" "java/lang/IllegalArgumentException")) := by decide +kernel
theorem nf_119 : FL[121]? = some (Jvm.Cond.not (Jvm.Cond.castable "java/lang/UnsupportedOperationException" "java/lang/IllegalStateException")) := by decide +kernel
theorem nf_31 : FL[33]? = some (Jvm.Cond.exactly (Jvm.Term.static "StoneQuarry$Command" "ROCK" "LStoneQuarry$Command;") "StoneQuarry$Command") := by decide +kernel
theorem nf_36 : FL[38]? = some (Jvm.Cond.exactly (Jvm.Term.static "StoneQuarry$Command" "CHARGE" "LStoneQuarry$Command;") "StoneQuarry$Command") := by decide +kernel
theorem nf_42 : FL[44]? = some (Jvm.Cond.exactly (Jvm.Term.static "StoneQuarry$Command" "REMOVE" "LStoneQuarry$Command;") "StoneQuarry$Command") := by decide +kernel
theorem nf_49 : FL[51]? = some (Jvm.Cond.exactly (Jvm.Term.static "StoneQuarry$Command" "IGNITE" "LStoneQuarry$Command;") "StoneQuarry$Command") := by decide +kernel
theorem nf_57 : FL[59]? = some (Jvm.Cond.exactly (Jvm.Term.static "StoneQuarry$Command" "DIG" "LStoneQuarry$Command;") "StoneQuarry$Command") := by decide +kernel
theorem nf_66 : FL[68]? = some (Jvm.Cond.exactly (Jvm.Term.static "StoneQuarry$Command" "PRICE" "LStoneQuarry$Command;") "StoneQuarry$Command") := by decide +kernel
theorem nf_76 : FL[78]? = some (Jvm.Cond.exactly (Jvm.Term.static "StoneQuarry$Command" "SELL" "LStoneQuarry$Command;") "StoneQuarry$Command") := by decide +kernel
theorem nf_841 : FL[843]? = some (Jvm.Cond.eq (Jvm.Term.elem (Jvm.Term.field (Jvm.Term.string "StoneQuarry$Command" (56 : Nat)) "java/lang/String" "value" "[B") (Jvm.Term.int (0 : Int32))) (Jvm.Term.int (114 : Int32))) := by decide +kernel
theorem nf_842 : FL[844]? = some (Jvm.Cond.eq (Jvm.Term.elem (Jvm.Term.field (Jvm.Term.string "StoneQuarry$Command" (56 : Nat)) "java/lang/String" "value" "[B") (Jvm.Term.int (1 : Int32))) (Jvm.Term.int (111 : Int32))) := by decide +kernel
theorem nf_843 : FL[845]? = some (Jvm.Cond.eq (Jvm.Term.elem (Jvm.Term.field (Jvm.Term.string "StoneQuarry$Command" (56 : Nat)) "java/lang/String" "value" "[B") (Jvm.Term.int (2 : Int32))) (Jvm.Term.int (99 : Int32))) := by decide +kernel
theorem nf_844 : FL[846]? = some (Jvm.Cond.eq (Jvm.Term.elem (Jvm.Term.field (Jvm.Term.string "StoneQuarry$Command" (56 : Nat)) "java/lang/String" "value" "[B") (Jvm.Term.int (3 : Int32))) (Jvm.Term.int (107 : Int32))) := by decide +kernel
theorem nf_840 : FL[842]? = some (Jvm.Cond.eq (Jvm.Term.length (Jvm.Term.field (Jvm.Term.string "StoneQuarry$Command" (56 : Nat)) "java/lang/String" "value" "[B")) (Jvm.Term.int (4 : Int32))) := by decide +kernel
theorem nf_838 : FL[840]? = some (Jvm.Cond.eq (Jvm.Term.field (Jvm.Term.string "StoneQuarry$Command" (56 : Nat)) "java/lang/String" "coder" "B") (Jvm.Term.int (0 : Int32))) := by decide +kernel
theorem nf_839 : FL[841]? = some (Jvm.Cond.arrayOf (Jvm.Term.field (Jvm.Term.string "StoneQuarry$Command" (56 : Nat)) "java/lang/String" "value" "[B") Jvm.ClassFile.FieldType.byte) := by decide +kernel
theorem nf_849 : FL[851]? = some (Jvm.Cond.eq (Jvm.Term.elem (Jvm.Term.field (Jvm.Term.string "StoneQuarry$Command" (62 : Nat)) "java/lang/String" "value" "[B") (Jvm.Term.int (0 : Int32))) (Jvm.Term.int (99 : Int32))) := by decide +kernel
theorem nf_850 : FL[852]? = some (Jvm.Cond.eq (Jvm.Term.elem (Jvm.Term.field (Jvm.Term.string "StoneQuarry$Command" (62 : Nat)) "java/lang/String" "value" "[B") (Jvm.Term.int (1 : Int32))) (Jvm.Term.int (104 : Int32))) := by decide +kernel
theorem nf_851 : FL[853]? = some (Jvm.Cond.eq (Jvm.Term.elem (Jvm.Term.field (Jvm.Term.string "StoneQuarry$Command" (62 : Nat)) "java/lang/String" "value" "[B") (Jvm.Term.int (2 : Int32))) (Jvm.Term.int (97 : Int32))) := by decide +kernel
theorem nf_852 : FL[854]? = some (Jvm.Cond.eq (Jvm.Term.elem (Jvm.Term.field (Jvm.Term.string "StoneQuarry$Command" (62 : Nat)) "java/lang/String" "value" "[B") (Jvm.Term.int (3 : Int32))) (Jvm.Term.int (114 : Int32))) := by decide +kernel
theorem nf_853 : FL[855]? = some (Jvm.Cond.eq (Jvm.Term.elem (Jvm.Term.field (Jvm.Term.string "StoneQuarry$Command" (62 : Nat)) "java/lang/String" "value" "[B") (Jvm.Term.int (4 : Int32))) (Jvm.Term.int (103 : Int32))) := by decide +kernel
theorem nf_854 : FL[856]? = some (Jvm.Cond.eq (Jvm.Term.elem (Jvm.Term.field (Jvm.Term.string "StoneQuarry$Command" (62 : Nat)) "java/lang/String" "value" "[B") (Jvm.Term.int (5 : Int32))) (Jvm.Term.int (101 : Int32))) := by decide +kernel
theorem nf_848 : FL[850]? = some (Jvm.Cond.eq (Jvm.Term.length (Jvm.Term.field (Jvm.Term.string "StoneQuarry$Command" (62 : Nat)) "java/lang/String" "value" "[B")) (Jvm.Term.int (6 : Int32))) := by decide +kernel
theorem nf_846 : FL[848]? = some (Jvm.Cond.eq (Jvm.Term.field (Jvm.Term.string "StoneQuarry$Command" (62 : Nat)) "java/lang/String" "coder" "B") (Jvm.Term.int (0 : Int32))) := by decide +kernel
theorem nf_847 : FL[849]? = some (Jvm.Cond.arrayOf (Jvm.Term.field (Jvm.Term.string "StoneQuarry$Command" (62 : Nat)) "java/lang/String" "value" "[B") Jvm.ClassFile.FieldType.byte) := by decide +kernel
theorem nf_859 : FL[861]? = some (Jvm.Cond.eq (Jvm.Term.elem (Jvm.Term.field (Jvm.Term.string "StoneQuarry$Command" (65 : Nat)) "java/lang/String" "value" "[B") (Jvm.Term.int (0 : Int32))) (Jvm.Term.int (114 : Int32))) := by decide +kernel
theorem nf_860 : FL[862]? = some (Jvm.Cond.eq (Jvm.Term.elem (Jvm.Term.field (Jvm.Term.string "StoneQuarry$Command" (65 : Nat)) "java/lang/String" "value" "[B") (Jvm.Term.int (1 : Int32))) (Jvm.Term.int (101 : Int32))) := by decide +kernel
theorem nf_861 : FL[863]? = some (Jvm.Cond.eq (Jvm.Term.elem (Jvm.Term.field (Jvm.Term.string "StoneQuarry$Command" (65 : Nat)) "java/lang/String" "value" "[B") (Jvm.Term.int (2 : Int32))) (Jvm.Term.int (109 : Int32))) := by decide +kernel
theorem nf_862 : FL[864]? = some (Jvm.Cond.eq (Jvm.Term.elem (Jvm.Term.field (Jvm.Term.string "StoneQuarry$Command" (65 : Nat)) "java/lang/String" "value" "[B") (Jvm.Term.int (3 : Int32))) (Jvm.Term.int (111 : Int32))) := by decide +kernel
theorem nf_863 : FL[865]? = some (Jvm.Cond.eq (Jvm.Term.elem (Jvm.Term.field (Jvm.Term.string "StoneQuarry$Command" (65 : Nat)) "java/lang/String" "value" "[B") (Jvm.Term.int (4 : Int32))) (Jvm.Term.int (118 : Int32))) := by decide +kernel
theorem nf_864 : FL[866]? = some (Jvm.Cond.eq (Jvm.Term.elem (Jvm.Term.field (Jvm.Term.string "StoneQuarry$Command" (65 : Nat)) "java/lang/String" "value" "[B") (Jvm.Term.int (5 : Int32))) (Jvm.Term.int (101 : Int32))) := by decide +kernel
theorem nf_858 : FL[860]? = some (Jvm.Cond.eq (Jvm.Term.length (Jvm.Term.field (Jvm.Term.string "StoneQuarry$Command" (65 : Nat)) "java/lang/String" "value" "[B")) (Jvm.Term.int (6 : Int32))) := by decide +kernel
theorem nf_856 : FL[858]? = some (Jvm.Cond.eq (Jvm.Term.field (Jvm.Term.string "StoneQuarry$Command" (65 : Nat)) "java/lang/String" "coder" "B") (Jvm.Term.int (0 : Int32))) := by decide +kernel
theorem nf_857 : FL[859]? = some (Jvm.Cond.arrayOf (Jvm.Term.field (Jvm.Term.string "StoneQuarry$Command" (65 : Nat)) "java/lang/String" "value" "[B") Jvm.ClassFile.FieldType.byte) := by decide +kernel
theorem nf_869 : FL[871]? = some (Jvm.Cond.eq (Jvm.Term.elem (Jvm.Term.field (Jvm.Term.string "StoneQuarry$Command" (68 : Nat)) "java/lang/String" "value" "[B") (Jvm.Term.int (0 : Int32))) (Jvm.Term.int (105 : Int32))) := by decide +kernel
theorem nf_870 : FL[872]? = some (Jvm.Cond.eq (Jvm.Term.elem (Jvm.Term.field (Jvm.Term.string "StoneQuarry$Command" (68 : Nat)) "java/lang/String" "value" "[B") (Jvm.Term.int (1 : Int32))) (Jvm.Term.int (103 : Int32))) := by decide +kernel
theorem nf_871 : FL[873]? = some (Jvm.Cond.eq (Jvm.Term.elem (Jvm.Term.field (Jvm.Term.string "StoneQuarry$Command" (68 : Nat)) "java/lang/String" "value" "[B") (Jvm.Term.int (2 : Int32))) (Jvm.Term.int (110 : Int32))) := by decide +kernel
theorem nf_872 : FL[874]? = some (Jvm.Cond.eq (Jvm.Term.elem (Jvm.Term.field (Jvm.Term.string "StoneQuarry$Command" (68 : Nat)) "java/lang/String" "value" "[B") (Jvm.Term.int (3 : Int32))) (Jvm.Term.int (105 : Int32))) := by decide +kernel
theorem nf_873 : FL[875]? = some (Jvm.Cond.eq (Jvm.Term.elem (Jvm.Term.field (Jvm.Term.string "StoneQuarry$Command" (68 : Nat)) "java/lang/String" "value" "[B") (Jvm.Term.int (4 : Int32))) (Jvm.Term.int (116 : Int32))) := by decide +kernel
theorem nf_874 : FL[876]? = some (Jvm.Cond.eq (Jvm.Term.elem (Jvm.Term.field (Jvm.Term.string "StoneQuarry$Command" (68 : Nat)) "java/lang/String" "value" "[B") (Jvm.Term.int (5 : Int32))) (Jvm.Term.int (101 : Int32))) := by decide +kernel
theorem nf_868 : FL[870]? = some (Jvm.Cond.eq (Jvm.Term.length (Jvm.Term.field (Jvm.Term.string "StoneQuarry$Command" (68 : Nat)) "java/lang/String" "value" "[B")) (Jvm.Term.int (6 : Int32))) := by decide +kernel
theorem nf_866 : FL[868]? = some (Jvm.Cond.eq (Jvm.Term.field (Jvm.Term.string "StoneQuarry$Command" (68 : Nat)) "java/lang/String" "coder" "B") (Jvm.Term.int (0 : Int32))) := by decide +kernel
theorem nf_867 : FL[869]? = some (Jvm.Cond.arrayOf (Jvm.Term.field (Jvm.Term.string "StoneQuarry$Command" (68 : Nat)) "java/lang/String" "value" "[B") Jvm.ClassFile.FieldType.byte) := by decide +kernel
theorem nf_879 : FL[881]? = some (Jvm.Cond.eq (Jvm.Term.elem (Jvm.Term.field (Jvm.Term.string "StoneQuarry$Command" (71 : Nat)) "java/lang/String" "value" "[B") (Jvm.Term.int (0 : Int32))) (Jvm.Term.int (100 : Int32))) := by decide +kernel
theorem nf_880 : FL[882]? = some (Jvm.Cond.eq (Jvm.Term.elem (Jvm.Term.field (Jvm.Term.string "StoneQuarry$Command" (71 : Nat)) "java/lang/String" "value" "[B") (Jvm.Term.int (1 : Int32))) (Jvm.Term.int (105 : Int32))) := by decide +kernel
theorem nf_881 : FL[883]? = some (Jvm.Cond.eq (Jvm.Term.elem (Jvm.Term.field (Jvm.Term.string "StoneQuarry$Command" (71 : Nat)) "java/lang/String" "value" "[B") (Jvm.Term.int (2 : Int32))) (Jvm.Term.int (103 : Int32))) := by decide +kernel
theorem nf_878 : FL[880]? = some (Jvm.Cond.eq (Jvm.Term.length (Jvm.Term.field (Jvm.Term.string "StoneQuarry$Command" (71 : Nat)) "java/lang/String" "value" "[B")) (Jvm.Term.int (3 : Int32))) := by decide +kernel
theorem nf_876 : FL[878]? = some (Jvm.Cond.eq (Jvm.Term.field (Jvm.Term.string "StoneQuarry$Command" (71 : Nat)) "java/lang/String" "coder" "B") (Jvm.Term.int (0 : Int32))) := by decide +kernel
theorem nf_877 : FL[879]? = some (Jvm.Cond.arrayOf (Jvm.Term.field (Jvm.Term.string "StoneQuarry$Command" (71 : Nat)) "java/lang/String" "value" "[B") Jvm.ClassFile.FieldType.byte) := by decide +kernel
theorem nf_886 : FL[888]? = some (Jvm.Cond.eq (Jvm.Term.elem (Jvm.Term.field (Jvm.Term.string "StoneQuarry$Command" (74 : Nat)) "java/lang/String" "value" "[B") (Jvm.Term.int (0 : Int32))) (Jvm.Term.int (112 : Int32))) := by decide +kernel
theorem nf_887 : FL[889]? = some (Jvm.Cond.eq (Jvm.Term.elem (Jvm.Term.field (Jvm.Term.string "StoneQuarry$Command" (74 : Nat)) "java/lang/String" "value" "[B") (Jvm.Term.int (1 : Int32))) (Jvm.Term.int (114 : Int32))) := by decide +kernel
theorem nf_888 : FL[890]? = some (Jvm.Cond.eq (Jvm.Term.elem (Jvm.Term.field (Jvm.Term.string "StoneQuarry$Command" (74 : Nat)) "java/lang/String" "value" "[B") (Jvm.Term.int (2 : Int32))) (Jvm.Term.int (105 : Int32))) := by decide +kernel
theorem nf_889 : FL[891]? = some (Jvm.Cond.eq (Jvm.Term.elem (Jvm.Term.field (Jvm.Term.string "StoneQuarry$Command" (74 : Nat)) "java/lang/String" "value" "[B") (Jvm.Term.int (3 : Int32))) (Jvm.Term.int (99 : Int32))) := by decide +kernel
theorem nf_890 : FL[892]? = some (Jvm.Cond.eq (Jvm.Term.elem (Jvm.Term.field (Jvm.Term.string "StoneQuarry$Command" (74 : Nat)) "java/lang/String" "value" "[B") (Jvm.Term.int (4 : Int32))) (Jvm.Term.int (101 : Int32))) := by decide +kernel
theorem nf_885 : FL[887]? = some (Jvm.Cond.eq (Jvm.Term.length (Jvm.Term.field (Jvm.Term.string "StoneQuarry$Command" (74 : Nat)) "java/lang/String" "value" "[B")) (Jvm.Term.int (5 : Int32))) := by decide +kernel
theorem nf_883 : FL[885]? = some (Jvm.Cond.eq (Jvm.Term.field (Jvm.Term.string "StoneQuarry$Command" (74 : Nat)) "java/lang/String" "coder" "B") (Jvm.Term.int (0 : Int32))) := by decide +kernel
theorem nf_884 : FL[886]? = some (Jvm.Cond.arrayOf (Jvm.Term.field (Jvm.Term.string "StoneQuarry$Command" (74 : Nat)) "java/lang/String" "value" "[B") Jvm.ClassFile.FieldType.byte) := by decide +kernel
theorem nf_895 : FL[897]? = some (Jvm.Cond.eq (Jvm.Term.elem (Jvm.Term.field (Jvm.Term.string "StoneQuarry$Command" (77 : Nat)) "java/lang/String" "value" "[B") (Jvm.Term.int (0 : Int32))) (Jvm.Term.int (115 : Int32))) := by decide +kernel
theorem nf_896 : FL[898]? = some (Jvm.Cond.eq (Jvm.Term.elem (Jvm.Term.field (Jvm.Term.string "StoneQuarry$Command" (77 : Nat)) "java/lang/String" "value" "[B") (Jvm.Term.int (1 : Int32))) (Jvm.Term.int (101 : Int32))) := by decide +kernel
theorem nf_897 : FL[899]? = some (Jvm.Cond.eq (Jvm.Term.elem (Jvm.Term.field (Jvm.Term.string "StoneQuarry$Command" (77 : Nat)) "java/lang/String" "value" "[B") (Jvm.Term.int (2 : Int32))) (Jvm.Term.int (108 : Int32))) := by decide +kernel
theorem nf_898 : FL[900]? = some (Jvm.Cond.eq (Jvm.Term.elem (Jvm.Term.field (Jvm.Term.string "StoneQuarry$Command" (77 : Nat)) "java/lang/String" "value" "[B") (Jvm.Term.int (3 : Int32))) (Jvm.Term.int (108 : Int32))) := by decide +kernel
theorem nf_894 : FL[896]? = some (Jvm.Cond.eq (Jvm.Term.length (Jvm.Term.field (Jvm.Term.string "StoneQuarry$Command" (77 : Nat)) "java/lang/String" "value" "[B")) (Jvm.Term.int (4 : Int32))) := by decide +kernel
theorem nf_892 : FL[894]? = some (Jvm.Cond.eq (Jvm.Term.field (Jvm.Term.string "StoneQuarry$Command" (77 : Nat)) "java/lang/String" "coder" "B") (Jvm.Term.int (0 : Int32))) := by decide +kernel
theorem nf_893 : FL[895]? = some (Jvm.Cond.arrayOf (Jvm.Term.field (Jvm.Term.string "StoneQuarry$Command" (77 : Nat)) "java/lang/String" "value" "[B") Jvm.ClassFile.FieldType.byte) := by decide +kernel
theorem nf_6 : FL[8]? = some (Jvm.Cond.arrayOf (Jvm.Term.static "StoneQuarry$CommandText" "COMMANDS" "[LStoneQuarry$Command;") (Jvm.ClassFile.FieldType.object "StoneQuarry$Command")) := by decide +kernel
theorem nf_7 : FL[9]? = some (Jvm.Cond.eq (Jvm.Term.length (Jvm.Term.static "StoneQuarry$CommandText" "COMMANDS" "[LStoneQuarry$Command;")) (Jvm.Term.int (7 : Int32))) := by decide +kernel
theorem nf_9 : FL[11]? = some (Jvm.Cond.eq (Jvm.Term.elem (Jvm.Term.static "StoneQuarry$CommandText" "COMMANDS" "[LStoneQuarry$Command;") (Jvm.Term.int (0 : Int32))) (Jvm.Term.static "StoneQuarry$Command" "ROCK" "LStoneQuarry$Command;")) := by decide +kernel
theorem nf_10 : FL[12]? = some (Jvm.Cond.eq (Jvm.Term.elem (Jvm.Term.static "StoneQuarry$CommandText" "COMMANDS" "[LStoneQuarry$Command;") (Jvm.Term.int (1 : Int32))) (Jvm.Term.static "StoneQuarry$Command" "CHARGE" "LStoneQuarry$Command;")) := by decide +kernel
theorem nf_11 : FL[13]? = some (Jvm.Cond.eq (Jvm.Term.elem (Jvm.Term.static "StoneQuarry$CommandText" "COMMANDS" "[LStoneQuarry$Command;") (Jvm.Term.int (2 : Int32))) (Jvm.Term.static "StoneQuarry$Command" "REMOVE" "LStoneQuarry$Command;")) := by decide +kernel
theorem nf_12 : FL[14]? = some (Jvm.Cond.eq (Jvm.Term.elem (Jvm.Term.static "StoneQuarry$CommandText" "COMMANDS" "[LStoneQuarry$Command;") (Jvm.Term.int (3 : Int32))) (Jvm.Term.static "StoneQuarry$Command" "IGNITE" "LStoneQuarry$Command;")) := by decide +kernel
theorem nf_13 : FL[15]? = some (Jvm.Cond.eq (Jvm.Term.elem (Jvm.Term.static "StoneQuarry$CommandText" "COMMANDS" "[LStoneQuarry$Command;") (Jvm.Term.int (4 : Int32))) (Jvm.Term.static "StoneQuarry$Command" "DIG" "LStoneQuarry$Command;")) := by decide +kernel
theorem nf_14 : FL[16]? = some (Jvm.Cond.eq (Jvm.Term.elem (Jvm.Term.static "StoneQuarry$CommandText" "COMMANDS" "[LStoneQuarry$Command;") (Jvm.Term.int (5 : Int32))) (Jvm.Term.static "StoneQuarry$Command" "PRICE" "LStoneQuarry$Command;")) := by decide +kernel
theorem nf_15 : FL[17]? = some (Jvm.Cond.eq (Jvm.Term.elem (Jvm.Term.static "StoneQuarry$CommandText" "COMMANDS" "[LStoneQuarry$Command;") (Jvm.Term.int (6 : Int32))) (Jvm.Term.static "StoneQuarry$Command" "SELL" "LStoneQuarry$Command;")) := by decide +kernel
theorem nf_22 : FL[24]? = some (Jvm.Cond.arrayOf (Jvm.Term.static "StoneQuarry$1" "$SwitchMap$StoneQuarry$Command" "[I") Jvm.ClassFile.FieldType.int) := by decide +kernel
theorem nf_23 : FL[25]? = some (Jvm.Cond.eq (Jvm.Term.length (Jvm.Term.static "StoneQuarry$1" "$SwitchMap$StoneQuarry$Command" "[I")) (Jvm.Term.int (7 : Int32))) := by decide +kernel
theorem nf_24 : FL[26]? = some (Jvm.Cond.eq (Jvm.Term.elem (Jvm.Term.static "StoneQuarry$1" "$SwitchMap$StoneQuarry$Command" "[I") (Jvm.Term.int (0 : Int32))) (Jvm.Term.int (1 : Int32))) := by decide +kernel
theorem nf_25 : FL[27]? = some (Jvm.Cond.eq (Jvm.Term.elem (Jvm.Term.static "StoneQuarry$1" "$SwitchMap$StoneQuarry$Command" "[I") (Jvm.Term.int (1 : Int32))) (Jvm.Term.int (2 : Int32))) := by decide +kernel
theorem nf_26 : FL[28]? = some (Jvm.Cond.eq (Jvm.Term.elem (Jvm.Term.static "StoneQuarry$1" "$SwitchMap$StoneQuarry$Command" "[I") (Jvm.Term.int (2 : Int32))) (Jvm.Term.int (3 : Int32))) := by decide +kernel
theorem nf_27 : FL[29]? = some (Jvm.Cond.eq (Jvm.Term.elem (Jvm.Term.static "StoneQuarry$1" "$SwitchMap$StoneQuarry$Command" "[I") (Jvm.Term.int (3 : Int32))) (Jvm.Term.int (4 : Int32))) := by decide +kernel
theorem nf_28 : FL[30]? = some (Jvm.Cond.eq (Jvm.Term.elem (Jvm.Term.static "StoneQuarry$1" "$SwitchMap$StoneQuarry$Command" "[I") (Jvm.Term.int (4 : Int32))) (Jvm.Term.int (5 : Int32))) := by decide +kernel
theorem nf_29 : FL[31]? = some (Jvm.Cond.eq (Jvm.Term.elem (Jvm.Term.static "StoneQuarry$1" "$SwitchMap$StoneQuarry$Command" "[I") (Jvm.Term.int (5 : Int32))) (Jvm.Term.int (6 : Int32))) := by decide +kernel
theorem nf_30 : FL[32]? = some (Jvm.Cond.eq (Jvm.Term.elem (Jvm.Term.static "StoneQuarry$1" "$SwitchMap$StoneQuarry$Command" "[I") (Jvm.Term.int (6 : Int32))) (Jvm.Term.int (0 : Int32))) := by decide +kernel
theorem nt_673 : Jvm.Cond.laysStatic "java/lang/Throwable" "UNASSIGNED_STACK" "[Ljava/lang/StackTraceElement;" ∈ lw_tbl := List.mem_of_getElem? (i := 673) (by decide +kernel)
theorem nt_88 : Jvm.Cond.initialized "java/lang/Throwable" ∈ lw_tbl := List.mem_of_getElem? (i := 88) (by decide +kernel)
theorem nf_2 : FL[4]? = some (Jvm.Cond.isRef (Jvm.Term.static "java/lang/Throwable" "UNASSIGNED_STACK" "[Ljava/lang/StackTraceElement;")) := by decide +kernel
theorem nt_675 : Jvm.Cond.laysStatic "java/lang/Throwable" "SUPPRESSED_SENTINEL" "Ljava/util/List;" ∈ lw_tbl := List.mem_of_getElem? (i := 675) (by decide +kernel)
theorem nf_3 : FL[5]? = some (Jvm.Cond.isRef (Jvm.Term.static "java/lang/Throwable" "SUPPRESSED_SENTINEL" "Ljava/util/List;")) := by decide +kernel
theorem nf_32 : FL[34]? = some (Jvm.Cond.eq (Jvm.Term.field (Jvm.Term.static "StoneQuarry$Command" "ROCK" "LStoneQuarry$Command;") "java/lang/Enum" "ordinal" "I") (Jvm.Term.int (0 : Int32))) := by decide +kernel
theorem nf_34 : FL[36]? = some (Jvm.Cond.eq (Jvm.Term.field (Jvm.Term.static "StoneQuarry$Command" "ROCK" "LStoneQuarry$Command;") "StoneQuarry$Command" "parameters" "I") (Jvm.Term.int (3 : Int32))) := by decide +kernel
theorem nf_35 : FL[37]? = some (Jvm.Cond.eq (Jvm.Term.field (Jvm.Term.static "StoneQuarry$Command" "ROCK" "LStoneQuarry$Command;") "StoneQuarry$Command" "digits" "I") (Jvm.Term.int (1 : Int32))) := by decide +kernel
theorem nf_33 : FL[35]? = some (Jvm.Cond.eq (Jvm.Term.field (Jvm.Term.static "StoneQuarry$Command" "ROCK" "LStoneQuarry$Command;") "StoneQuarry$Command" "word" "Ljava/lang/String;") (Jvm.Term.string "StoneQuarry$Command" (56 : Nat))) := by decide +kernel
theorem nf_37 : FL[39]? = some (Jvm.Cond.eq (Jvm.Term.field (Jvm.Term.static "StoneQuarry$Command" "CHARGE" "LStoneQuarry$Command;") "java/lang/Enum" "ordinal" "I") (Jvm.Term.int (1 : Int32))) := by decide +kernel
theorem nf_39 : FL[41]? = some (Jvm.Cond.eq (Jvm.Term.field (Jvm.Term.static "StoneQuarry$Command" "CHARGE" "LStoneQuarry$Command;") "StoneQuarry$Command" "parameters" "I") (Jvm.Term.int (3 : Int32))) := by decide +kernel
theorem nf_40 : FL[42]? = some (Jvm.Cond.eq (Jvm.Term.field (Jvm.Term.static "StoneQuarry$Command" "CHARGE" "LStoneQuarry$Command;") "StoneQuarry$Command" "digits" "I") (Jvm.Term.int (1 : Int32))) := by decide +kernel
theorem nf_38 : FL[40]? = some (Jvm.Cond.eq (Jvm.Term.field (Jvm.Term.static "StoneQuarry$Command" "CHARGE" "LStoneQuarry$Command;") "StoneQuarry$Command" "word" "Ljava/lang/String;") (Jvm.Term.string "StoneQuarry$Command" (62 : Nat))) := by decide +kernel
theorem nf_43 : FL[45]? = some (Jvm.Cond.eq (Jvm.Term.field (Jvm.Term.static "StoneQuarry$Command" "REMOVE" "LStoneQuarry$Command;") "java/lang/Enum" "ordinal" "I") (Jvm.Term.int (2 : Int32))) := by decide +kernel
theorem nf_45 : FL[47]? = some (Jvm.Cond.eq (Jvm.Term.field (Jvm.Term.static "StoneQuarry$Command" "REMOVE" "LStoneQuarry$Command;") "StoneQuarry$Command" "parameters" "I") (Jvm.Term.int (1 : Int32))) := by decide +kernel
theorem nf_46 : FL[48]? = some (Jvm.Cond.eq (Jvm.Term.field (Jvm.Term.static "StoneQuarry$Command" "REMOVE" "LStoneQuarry$Command;") "StoneQuarry$Command" "digits" "I") (Jvm.Term.int (1 : Int32))) := by decide +kernel
theorem nf_44 : FL[46]? = some (Jvm.Cond.eq (Jvm.Term.field (Jvm.Term.static "StoneQuarry$Command" "REMOVE" "LStoneQuarry$Command;") "StoneQuarry$Command" "word" "Ljava/lang/String;") (Jvm.Term.string "StoneQuarry$Command" (65 : Nat))) := by decide +kernel
theorem nf_50 : FL[52]? = some (Jvm.Cond.eq (Jvm.Term.field (Jvm.Term.static "StoneQuarry$Command" "IGNITE" "LStoneQuarry$Command;") "java/lang/Enum" "ordinal" "I") (Jvm.Term.int (3 : Int32))) := by decide +kernel
theorem nf_52 : FL[54]? = some (Jvm.Cond.eq (Jvm.Term.field (Jvm.Term.static "StoneQuarry$Command" "IGNITE" "LStoneQuarry$Command;") "StoneQuarry$Command" "parameters" "I") (Jvm.Term.int (1 : Int32))) := by decide +kernel
theorem nf_53 : FL[55]? = some (Jvm.Cond.eq (Jvm.Term.field (Jvm.Term.static "StoneQuarry$Command" "IGNITE" "LStoneQuarry$Command;") "StoneQuarry$Command" "digits" "I") (Jvm.Term.int (1 : Int32))) := by decide +kernel
theorem nf_51 : FL[53]? = some (Jvm.Cond.eq (Jvm.Term.field (Jvm.Term.static "StoneQuarry$Command" "IGNITE" "LStoneQuarry$Command;") "StoneQuarry$Command" "word" "Ljava/lang/String;") (Jvm.Term.string "StoneQuarry$Command" (68 : Nat))) := by decide +kernel
theorem nf_58 : FL[60]? = some (Jvm.Cond.eq (Jvm.Term.field (Jvm.Term.static "StoneQuarry$Command" "DIG" "LStoneQuarry$Command;") "java/lang/Enum" "ordinal" "I") (Jvm.Term.int (4 : Int32))) := by decide +kernel
theorem nf_60 : FL[62]? = some (Jvm.Cond.eq (Jvm.Term.field (Jvm.Term.static "StoneQuarry$Command" "DIG" "LStoneQuarry$Command;") "StoneQuarry$Command" "parameters" "I") (Jvm.Term.int (2 : Int32))) := by decide +kernel
theorem nf_61 : FL[63]? = some (Jvm.Cond.eq (Jvm.Term.field (Jvm.Term.static "StoneQuarry$Command" "DIG" "LStoneQuarry$Command;") "StoneQuarry$Command" "digits" "I") (Jvm.Term.int (1 : Int32))) := by decide +kernel
theorem nf_59 : FL[61]? = some (Jvm.Cond.eq (Jvm.Term.field (Jvm.Term.static "StoneQuarry$Command" "DIG" "LStoneQuarry$Command;") "StoneQuarry$Command" "word" "Ljava/lang/String;") (Jvm.Term.string "StoneQuarry$Command" (71 : Nat))) := by decide +kernel
theorem nf_67 : FL[69]? = some (Jvm.Cond.eq (Jvm.Term.field (Jvm.Term.static "StoneQuarry$Command" "PRICE" "LStoneQuarry$Command;") "java/lang/Enum" "ordinal" "I") (Jvm.Term.int (5 : Int32))) := by decide +kernel
theorem nf_69 : FL[71]? = some (Jvm.Cond.eq (Jvm.Term.field (Jvm.Term.static "StoneQuarry$Command" "PRICE" "LStoneQuarry$Command;") "StoneQuarry$Command" "parameters" "I") (Jvm.Term.int (2 : Int32))) := by decide +kernel
theorem nf_70 : FL[72]? = some (Jvm.Cond.eq (Jvm.Term.field (Jvm.Term.static "StoneQuarry$Command" "PRICE" "LStoneQuarry$Command;") "StoneQuarry$Command" "digits" "I") (Jvm.Term.int (2 : Int32))) := by decide +kernel
theorem nf_68 : FL[70]? = some (Jvm.Cond.eq (Jvm.Term.field (Jvm.Term.static "StoneQuarry$Command" "PRICE" "LStoneQuarry$Command;") "StoneQuarry$Command" "word" "Ljava/lang/String;") (Jvm.Term.string "StoneQuarry$Command" (74 : Nat))) := by decide +kernel
theorem nf_77 : FL[79]? = some (Jvm.Cond.eq (Jvm.Term.field (Jvm.Term.static "StoneQuarry$Command" "SELL" "LStoneQuarry$Command;") "java/lang/Enum" "ordinal" "I") (Jvm.Term.int (6 : Int32))) := by decide +kernel
theorem nf_79 : FL[81]? = some (Jvm.Cond.eq (Jvm.Term.field (Jvm.Term.static "StoneQuarry$Command" "SELL" "LStoneQuarry$Command;") "StoneQuarry$Command" "parameters" "I") (Jvm.Term.int (1 : Int32))) := by decide +kernel
theorem nf_80 : FL[82]? = some (Jvm.Cond.eq (Jvm.Term.field (Jvm.Term.static "StoneQuarry$Command" "SELL" "LStoneQuarry$Command;") "StoneQuarry$Command" "digits" "I") (Jvm.Term.int (2 : Int32))) := by decide +kernel
theorem nf_78 : FL[80]? = some (Jvm.Cond.eq (Jvm.Term.field (Jvm.Term.static "StoneQuarry$Command" "SELL" "LStoneQuarry$Command;") "StoneQuarry$Command" "word" "Ljava/lang/String;") (Jvm.Term.string "StoneQuarry$Command" (77 : Nat))) := by decide +kernel
theorem nt_1204 : Jvm.Cond.laysStatic "StoneQuarry$CommandText" "COMMANDS" "[LStoneQuarry$Command;" ∈ lw_tbl := List.mem_of_getElem? (i := 1204) (by decide +kernel)
theorem nt_86 : Jvm.Cond.initialized "StoneQuarry$CommandText" ∈ lw_tbl := List.mem_of_getElem? (i := 86) (by decide +kernel)
theorem nt_1296 : Jvm.Cond.laysStatic "StoneQuarry$1" "$SwitchMap$StoneQuarry$Command" "[I" ∈ lw_tbl := List.mem_of_getElem? (i := 1296) (by decide +kernel)
theorem nt_104 : Jvm.Cond.initialized "StoneQuarry$1" ∈ lw_tbl := List.mem_of_getElem? (i := 104) (by decide +kernel)
theorem nt_1218 : Jvm.Cond.laysStatic "java/lang/String" "COMPACT_STRINGS" "Z" ∈ lw_tbl := List.mem_of_getElem? (i := 1218) (by decide +kernel)
theorem nt_98 : Jvm.Cond.initialized "java/lang/String" ∈ lw_tbl := List.mem_of_getElem? (i := 98) (by decide +kernel)
theorem nf_16 : FL[18]? = some (Jvm.Cond.eq (Jvm.Term.static "java/lang/String" "COMPACT_STRINGS" "Z") (Jvm.Term.int (1 : Int32))) := by decide +kernel
theorem nt_1234 : Jvm.Cond.laysStatic "jdk/internal/util/Preconditions" "SIOOBE_FORMATTER" "Ljava/util/function/BiFunction;" ∈ lw_tbl := List.mem_of_getElem? (i := 1234) (by decide +kernel)
theorem nt_102 : Jvm.Cond.initialized "jdk/internal/util/Preconditions" ∈ lw_tbl := List.mem_of_getElem? (i := 102) (by decide +kernel)
theorem nf_17 : FL[19]? = some (Jvm.Cond.isRef (Jvm.Term.static "jdk/internal/util/Preconditions" "SIOOBE_FORMATTER" "Ljava/util/function/BiFunction;")) := by decide +kernel
theorem arr_prim {args : Array Value} {s : State} {ty : FieldType} (h : (Cond.arrayClass ty).before args s = true) (hp : ∀ C, ty ≠ .object C) : ∃ cA : ClassId, ArrOfT s cA ty ∧ va_RA s cA ty := by
  obtain ⟨cA, kA, comp, h1, h2, h3⟩ := Cond.arrayClass_spec h
  refine ⟨cA, fun n z => ⟨fun k h => (by cases h), kA, h2, comp, h3⟩, ?_⟩
  cases ty <;> first | exact absurd rfl (hp _) | exact h1
theorem arr_obj {args : Array Value} {s : State} {C : String} (h : (Cond.arrayOver (.object C)).before args s = true) : ∃ cA : ClassId, ArrOfT s cA (.object C) ∧ va_RA s cA (.object C) := by
  obtain ⟨comp, c, k, h1, h2, h3, h4, h5⟩ := Cond.arrayOver_spec h
  exact ⟨c, fun n z => ⟨fun k h => (by cases h), k, h3, comp, h4⟩, k, comp, h3, h4, h1, h5⟩
theorem str_of {args : Array Value} {s : State} {own tx : String} {k : Nat} (h1 : (Cond.stringRef own k tx).before args s = true) (h2 : (Cond.exactly (.string own k) "java/lang/String").before args s = true) : ∃ a, vk_R own k tx a s := by
  obtain ⟨a, c, cA, kA, q1, -⟩ := Cond.exactly_spec (args := args) (first := s) (o := none) (s := s) (idx := []) (t := .string own k) (cls := "java/lang/String") h2
  exact ⟨a, vk_R.of h1 q1⟩

theorem tys_known {args : Array Value} {s : State} (hts : ∀ w ∈ lw_tbl, w.before args s = true) : ∃ cA : Nat → ClassId, ∀ (k : Nat) (q : ClassId × FieldType), (tysC cA)[k]? = some q → ArrOfT s q.1 q.2 ∧ va_RA s q.1 q.2 := by
  obtain ⟨c0, h0⟩ := arr_prim (hts _ nt_156) (fun C h => by cases h)
  obtain ⟨c1, h1⟩ := arr_prim (hts _ nt_193) (fun C h => by cases h)
  obtain ⟨c2, h2⟩ := arr_prim (hts _ nt_286) (fun C h => by cases h)
  obtain ⟨c3, h3⟩ := arr_obj (hts _ nt_164)
  obtain ⟨c4, h4⟩ := arr_obj (hts _ nt_294)
  obtain ⟨c5, h5⟩ := arr_prim (hts _ nt_1795) (fun C h => by cases h)
  obtain ⟨c6, h6⟩ := arr_prim (hts _ nt_1796) (fun C h => by cases h)
  refine ⟨fun k => ([c0, c1, c2, c3, c4, c5, c6] : List ClassId).getD k c0, fun k q hk => ?_⟩
  rcases k with _ | _ | _ | _ | _ | _ | _ | k
  · cases Option.some.inj hk
    exact h0
  · cases Option.some.inj hk
    exact h1
  · cases Option.some.inj hk
    exact h2
  · cases Option.some.inj hk
    exact h3
  · cases Option.some.inj hk
    exact h4
  · cases Option.some.inj hk
    exact h5
  · cases Option.some.inj hk
    exact h6
  · cases hk

theorem cls_known {args : Array Value} {s : State} (hts : ∀ w ∈ lw_tbl, w.before args s = true) : ∃ G : va_G, ∀ (c : Nat) (q : vw_C), vwCl[c]? = some q → u_Kn s q.1 q.2.1 q.2.2 (G.1 c) (G.2 c) := by
  have h : ∀ c : Nat, ∃ z : ClassId × (Nat → Nat), ∀ q : vw_C, vwCl[c]? = some q → u_Kn s q.1 q.2.1 q.2.2 z.1 z.2 := by
    intro c
    rcases c with _ | _ | _ | _ | _ | _ | _ | _ | _ | _ | _ | _ | _ | _ | c
    · obtain ⟨cC, iS, h⟩ := u_known (C := RJ0) (T := TJ0) (N := 2) hts (by decide +kernel) (hts _ nt_895)
      exact ⟨(cC, iS), fun q hq => by cases Option.some.inj hq; exact h⟩
    · obtain ⟨cC, iS, h⟩ := u_known (C := RJx00060) (T := TJx00060) (N := 6) hts (by decide +kernel) (hts _ nt_877)
      exact ⟨(cC, iS), fun q hq => by cases Option.some.inj hq; exact h⟩
    · obtain ⟨cC, iS, h⟩ := u_known (C := RX1) (T := TX1) (N := 5) hts (fun w hw => (List.mem_filter.mp (uX1 w hw)).1) (hts _ nt_195)
      exact ⟨(cC, iS), fun q hq => by cases Option.some.inj hq; exact h⟩
    · obtain ⟨cC, iS, h⟩ := u_known (C := RX2) (T := TX2) (N := 1) hts (fun w hw => (List.mem_filter.mp (uX2 w hw)).1) (hts _ nt_251)
      exact ⟨(cC, iS), fun q hq => by cases Option.some.inj hq; exact h⟩
    · obtain ⟨cC, iS, h⟩ := u_known (C := RX4) (T := TX4) (N := 6) hts (fun w hw => (List.mem_filter.mp (uX4 w hw)).1) (hts _ nt_288)
      exact ⟨(cC, iS), fun q hq => by cases Option.some.inj hq; exact h⟩
    · obtain ⟨cC, iS, h⟩ := u_known (C := RX5) (T := TX5) (N := 2) hts (fun w hw => (List.mem_filter.mp (uX5 w hw)).1) (hts _ nt_261)
      exact ⟨(cC, iS), fun q hq => by cases Option.some.inj hq; exact h⟩
    · obtain ⟨cC, iS, h⟩ := u_known (C := RX6) (T := TX6) (N := 3) hts (fun w hw => (List.mem_filter.mp (uX6 w hw)).1) (hts _ nt_158)
      exact ⟨(cC, iS), fun q hq => by cases Option.some.inj hq; exact h⟩
    · obtain ⟨cC, iS, h⟩ := u_known (C := RX7) (T := TX7) (N := 2) hts (fun w hw => (List.mem_filter.mp (uX7 w hw)).1) (hts _ nt_274)
      exact ⟨(cC, iS), fun q hq => by cases Option.some.inj hq; exact h⟩
    · obtain ⟨cC, iS, h⟩ := u_known (C := RX8) (T := TX8) (N := 9) hts (fun w hw => (List.mem_filter.mp (uX8 w hw)).1) (hts _ nt_114)
      exact ⟨(cC, iS), fun q hq => by cases Option.some.inj hq; exact h⟩
    · obtain ⟨cC, iS, h⟩ := u_known (C := RX9) (T := TX9) (N := 4) hts (fun w hw => (List.mem_filter.mp (uX9 w hw)).1) (hts _ nt_232)
      exact ⟨(cC, iS), fun q hq => by cases Option.some.inj hq; exact h⟩
    · obtain ⟨cC, iS, h⟩ := u_known (C := RX10) (T := TX10) (N := 2) hts (fun w hw => (List.mem_filter.mp (uX10 w hw)).1) (hts _ nt_219)
      exact ⟨(cC, iS), fun q hq => by cases Option.some.inj hq; exact h⟩
    · obtain ⟨cC, iS, h⟩ := u_known (C := RX11) (T := TX11) (N := 3) hts (fun w hw => (List.mem_filter.mp (uX11 w hw)).1) (hts _ nt_178)
      exact ⟨(cC, iS), fun q hq => by cases Option.some.inj hq; exact h⟩
    · obtain ⟨cC, iS, h⟩ := u_known (C := RX12) (T := TX12) (N := 15) hts (fun w hw => (List.mem_filter.mp (uX12 w hw)).1) (hts _ nt_106)
      exact ⟨(cC, iS), fun q hq => by cases Option.some.inj hq; exact h⟩
    · obtain ⟨cC, iS, h⟩ := u_known (C := RX13) (T := TX13) (N := 25) hts (fun w hw => (List.mem_filter.mp (uX13 w hw)).1) (hts _ nt_1345)
      exact ⟨(cC, iS), fun q hq => by cases Option.some.inj hq; exact h⟩
    · exact ⟨(0, fun _ => 0), fun q hq => by cases hq⟩
  obtain ⟨f, hf⟩ := Classical.axiomOfChoice h
  exact ⟨(fun c => (f c).1, fun c => (f c).2), hf⟩

set_option maxHeartbeats 8000000 in
set_option maxRecDepth 100000 in
theorem strs_known {b : Nat} {s : State} (hts : ∀ w ∈ lw_tbl, w.before #[Value.ref b] s = true) (hs : ∀ w ∈ FL, w.before #[Value.ref b] s = true) : ∀ q, q ∈ STRS → ∃ a, vk_R q.1 q.2.1 q.2.2 a s := by
  refine List.forall_mem_cons.mpr ⟨str_of (hts _ nt_691) (hs _ (List.mem_of_getElem? nf_242)), ?_⟩
  refine List.forall_mem_cons.mpr ⟨str_of (hts _ nt_727) (hs _ (List.mem_of_getElem? nf_284)), ?_⟩
  refine List.forall_mem_cons.mpr ⟨str_of (hts _ nt_772) (hs _ (List.mem_of_getElem? nf_304)), ?_⟩
  refine List.forall_mem_cons.mpr ⟨str_of (hts _ nt_773) (hs _ (List.mem_of_getElem? nf_320)), ?_⟩
  refine List.forall_mem_cons.mpr ⟨str_of (hts _ nt_783) (hs _ (List.mem_of_getElem? nf_380)), ?_⟩
  refine List.forall_mem_cons.mpr ⟨str_of (hts _ nt_823) (hs _ (List.mem_of_getElem? nf_397)), ?_⟩
  refine List.forall_mem_cons.mpr ⟨str_of (hts _ nt_867) (hs _ (List.mem_of_getElem? nf_422)), ?_⟩
  refine List.forall_mem_cons.mpr ⟨str_of (hts _ nt_868) (hs _ (List.mem_of_getElem? nf_464)), ?_⟩
  refine List.forall_mem_cons.mpr ⟨str_of (hts _ nt_914) (hs _ (List.mem_of_getElem? nf_506)), ?_⟩
  refine List.forall_mem_cons.mpr ⟨str_of (hts _ nt_1004) (hs _ (List.mem_of_getElem? nf_524)), ?_⟩
  refine List.forall_mem_cons.mpr ⟨str_of (hts _ nt_1022) (hs _ (List.mem_of_getElem? nf_538)), ?_⟩
  refine List.forall_mem_cons.mpr ⟨str_of (hts _ nt_1035) (hs _ (List.mem_of_getElem? nf_570)), ?_⟩
  refine List.forall_mem_cons.mpr ⟨str_of (hts _ nt_1073) (hs _ (List.mem_of_getElem? nf_593)), ?_⟩
  refine List.forall_mem_cons.mpr ⟨str_of (hts _ nt_1104) (hs _ (List.mem_of_getElem? nf_613)), ?_⟩
  refine List.forall_mem_cons.mpr ⟨str_of (hts _ nt_1117) (hs _ (List.mem_of_getElem? nf_635)), ?_⟩
  refine List.forall_mem_cons.mpr ⟨str_of (hts _ nt_1161) (hs _ (List.mem_of_getElem? nf_650)), ?_⟩
  refine List.forall_mem_cons.mpr ⟨str_of (hts _ nt_1178) (hs _ (List.mem_of_getElem? nf_671)), ?_⟩
  refine List.forall_mem_cons.mpr ⟨str_of (hts _ nt_1278) (hs _ (List.mem_of_getElem? nf_698)), ?_⟩
  refine List.forall_mem_cons.mpr ⟨str_of (hts _ nt_1303) (hs _ (List.mem_of_getElem? nf_723)), ?_⟩
  refine List.forall_mem_cons.mpr ⟨str_of (hts _ nt_1311) (hs _ (List.mem_of_getElem? nf_742)), ?_⟩
  refine List.forall_mem_cons.mpr ⟨str_of (hts _ nt_1319) (hs _ (List.mem_of_getElem? nf_767)), ?_⟩
  refine List.forall_mem_cons.mpr ⟨str_of (hts _ nt_1327) (hs _ (List.mem_of_getElem? nf_788)), ?_⟩
  refine List.forall_mem_cons.mpr ⟨str_of (hts _ nt_1339) (hs _ (List.mem_of_getElem? nf_813)), ?_⟩
  refine List.forall_mem_cons.mpr ⟨str_of (hts _ nt_1834) (hs _ (List.mem_of_getElem? nf_837)), ?_⟩
  refine List.forall_mem_cons.mpr ⟨str_of (hts _ nt_1835) (hs _ (List.mem_of_getElem? nf_845)), ?_⟩
  refine List.forall_mem_cons.mpr ⟨str_of (hts _ nt_1836) (hs _ (List.mem_of_getElem? nf_855)), ?_⟩
  refine List.forall_mem_cons.mpr ⟨str_of (hts _ nt_1837) (hs _ (List.mem_of_getElem? nf_865)), ?_⟩
  refine List.forall_mem_cons.mpr ⟨str_of (hts _ nt_1838) (hs _ (List.mem_of_getElem? nf_875)), ?_⟩
  refine List.forall_mem_cons.mpr ⟨str_of (hts _ nt_1839) (hs _ (List.mem_of_getElem? nf_882)), ?_⟩
  refine List.forall_mem_cons.mpr ⟨str_of (hts _ nt_1840) (hs _ (List.mem_of_getElem? nf_891)), ?_⟩
  exact fun q hq => (by cases hq)

theorem ncs_known {b : Nat} {s : State} (hts : ∀ w ∈ lw_tbl, w.before #[Value.ref b] s = true) (hs : ∀ w ∈ FL, w.before #[Value.ref b] s = true) : ∀ q, q ∈ NCS → va_Nc q.1 q.2 s := by
  refine List.forall_mem_cons.mpr ⟨va_Nc.of (hs _ (List.mem_of_getElem? nf_99)), ?_⟩
  refine List.forall_mem_cons.mpr ⟨va_Nc.of (hs _ (List.mem_of_getElem? nf_100)), ?_⟩
  refine List.forall_mem_cons.mpr ⟨va_Nc.of (hs _ (List.mem_of_getElem? nf_119)), ?_⟩
  exact fun q hq => (by cases hq)

theorem start_KN {b : Nat} {s : State} (hts : ∀ w ∈ lw_tbl, w.before #[Value.ref b] s = true) (hs : ∀ w ∈ FL, w.before #[Value.ref b] s = true) : ∃ (G : va_G) (cA : Nat → ClassId), KN G cA s := by
  obtain ⟨G, hG⟩ := cls_known hts
  obtain ⟨cA, hA⟩ := tys_known hts
  exact ⟨G, cA, ⟨⟨hG, hA⟩, fun w hw => va_Nw.of (isNest_on (List.mem_filter.mp hw).2) (hts w (List.mem_filter.mp hw).1), strs_known hts hs, ncs_known hts hs⟩, va_AO.of (hts _ nt_164), va_AO.of (hts _ nt_294)⟩

def tmC (k : Nat) : Term := ([(Term.static "StoneQuarry$Command" "ROCK" "LStoneQuarry$Command;"), (Term.static "StoneQuarry$Command" "CHARGE" "LStoneQuarry$Command;"), (Term.static "StoneQuarry$Command" "REMOVE" "LStoneQuarry$Command;"), (Term.static "StoneQuarry$Command" "IGNITE" "LStoneQuarry$Command;"), (Term.static "StoneQuarry$Command" "DIG" "LStoneQuarry$Command;"), (Term.static "StoneQuarry$Command" "PRICE" "LStoneQuarry$Command;"), (Term.static "StoneQuarry$Command" "SELL" "LStoneQuarry$Command;")]).getD k (.int 0)
def tmW (k : Nat) : Term := ([Term.string "StoneQuarry$Command" 56, Term.string "StoneQuarry$Command" 62, Term.string "StoneQuarry$Command" 65, Term.string "StoneQuarry$Command" 68, Term.string "StoneQuarry$Command" 71, Term.string "StoneQuarry$Command" 74, Term.string "StoneQuarry$Command" 77]).getD k (.int 0)
def KF (aC adK adV : Nat → Nat) (tC tS : Nat) : Nat → Nat := fun k => if k < 1010 then aC (k - 1000) else if k < 1020 then adK (k - 1010) else if k = 1020 then tC else if k = 1021 then tS else adV (k - 1030)
theorem KF_c (aC adK adV : Nat → Nat) (tC tS k : Nat) (h : k < 7) : KF aC adK adV tC tS (1000 + k) = aC k := by
  unfold KF
  rw [if_pos (by omega), Nat.add_sub_cancel_left]
theorem KF_w (aC adK adV : Nat → Nat) (tC tS k : Nat) (h : k < 7) : KF aC adK adV tC tS (1010 + k) = adK k := by
  unfold KF
  rw [if_neg (by omega), if_pos (by omega), Nat.add_sub_cancel_left]
theorem KF_b (aC adK adV : Nat → Nat) (tC tS k : Nat) (h : k < 7) : KF aC adK adV tC tS (1030 + k) = adV k := by
  unfold KF
  rw [if_neg (by omega), if_neg (by omega), if_neg (by omega), if_neg (by omega), Nat.add_sub_cancel_left]

set_option maxHeartbeats 8000000 in
set_option maxRecDepth 100000 in
theorem start_ST {b : Nat} {s : State} (hts : ∀ w ∈ lw_tbl, w.before #[Value.ref b] s = true) (hs : ∀ w ∈ FL, w.before #[Value.ref b] s = true) : ∃ K : Nat → Nat, ∀ E : EE, (∀ k, 1000 ≤ k → E.1 k = K k) → ST E (fun q => s.heap.size ≤ q) s s.heap := by
  have hA : ∀ a : Nat, a < s.heap.size → ¬ (fun q => s.heap.size ≤ q) a := fun a h z => Nat.not_lt.mpr z h
  have hC0 : ∀ k : Nat, ∃ a : Nat, k < 7 → (tmC k).eval #[Value.ref b] s none [] s = some (.ref a) ∧ va_O "StoneQuarry$Command" a (fun q => s.heap.size ≤ q) s s.heap := by
    intro k
    by_cases hk : k < 7
    · have hex : (Cond.exactly (tmC k) "StoneQuarry$Command").before #[Value.ref b] s = true := by
        rcases k with _ | _ | _ | _ | _ | _ | _ | k
        · exact (hs _ (List.mem_of_getElem? nf_31))
        · exact (hs _ (List.mem_of_getElem? nf_36))
        · exact (hs _ (List.mem_of_getElem? nf_42))
        · exact (hs _ (List.mem_of_getElem? nf_49))
        · exact (hs _ (List.mem_of_getElem? nf_57))
        · exact (hs _ (List.mem_of_getElem? nf_66))
        · exact (hs _ (List.mem_of_getElem? nf_76))
        · omega
      obtain ⟨a, c, cA, kA, q1, -⟩ := Cond.exactly_spec (args := #[Value.ref b]) (first := s) (o := none) (s := s) (idx := []) (t := tmC k) (cls := "StoneQuarry$Command") hex
      exact ⟨a, fun _ => ⟨q1, va_Oof hex q1 hA⟩⟩
    · exact ⟨0, fun h => absurd h hk⟩
  obtain ⟨aC, haC⟩ := Classical.axiomOfChoice hC0
  have hW0 : ∀ k : Nat, ∃ q : Nat × Nat, k < 7 → (va_O "java/lang/String" q.1 (fun q => s.heap.size ≤ q) s s.heap ∧ va_OF "java/lang/String" "coder" "B" (.int 0) q.1 (fun q => s.heap.size ≤ q) s s.heap ∧ va_OF "java/lang/String" "value" "[B" (.ref q.2) q.1 (fun q => s.heap.size ≤ q) s s.heap ∧ va_T .byte q.2 (cmdN k) (fun j => .int ((cmdB k).getD j 0)) (fun q => s.heap.size ≤ q) s s.heap) ∧ (tmW k).eval #[Value.ref b] s none [] s = some (.ref q.1) := by
    intro k
    rcases k with _ | _ | _ | _ | _ | _ | _ | k
    · obtain ⟨aK, aV, h1, h2⟩ := vk_Sof (args := #[Value.ref b]) (s := s) (N := 1) (tm := fun _ => tmW 0) (len := [4]) (byt := [[114, 111, 99, 107]]) (A := fun q => s.heap.size ≤ q) (by decide) (fun i hi => (hs _ (List.mem_of_getElem? nf_837))) (fun i hi => (hs _ (List.mem_of_getElem? nf_838))) (fun i hi => (hs _ (List.mem_of_getElem? nf_839))) (fun i hi => by
        have e : i = 0 := by omega
        subst e
        exact (hs _ (List.mem_of_getElem? nf_840))) (fun i hi j hj => by
        have e : i = 0 := by omega
        subst e
        have hj : j < 4 := hj
        rcases j with _ | _ | _ | _ | j
        · exact (hs _ (List.mem_of_getElem? nf_841))
        · exact (hs _ (List.mem_of_getElem? nf_842))
        · exact (hs _ (List.mem_of_getElem? nf_843))
        · exact (hs _ (List.mem_of_getElem? nf_844))
        · omega) (fun i j hi hj hij => absurd (show i = j by omega) hij) hA
      exact ⟨(aK 0, aV 0), fun _ => ⟨h1.1 0 (by decide), h2 0 (by decide)⟩⟩
    · obtain ⟨aK, aV, h1, h2⟩ := vk_Sof (args := #[Value.ref b]) (s := s) (N := 1) (tm := fun _ => tmW 1) (len := [6]) (byt := [[99, 104, 97, 114, 103, 101]]) (A := fun q => s.heap.size ≤ q) (by decide) (fun i hi => (hs _ (List.mem_of_getElem? nf_845))) (fun i hi => (hs _ (List.mem_of_getElem? nf_846))) (fun i hi => (hs _ (List.mem_of_getElem? nf_847))) (fun i hi => by
        have e : i = 0 := by omega
        subst e
        exact (hs _ (List.mem_of_getElem? nf_848))) (fun i hi j hj => by
        have e : i = 0 := by omega
        subst e
        have hj : j < 6 := hj
        rcases j with _ | _ | _ | _ | _ | _ | j
        · exact (hs _ (List.mem_of_getElem? nf_849))
        · exact (hs _ (List.mem_of_getElem? nf_850))
        · exact (hs _ (List.mem_of_getElem? nf_851))
        · exact (hs _ (List.mem_of_getElem? nf_852))
        · exact (hs _ (List.mem_of_getElem? nf_853))
        · exact (hs _ (List.mem_of_getElem? nf_854))
        · omega) (fun i j hi hj hij => absurd (show i = j by omega) hij) hA
      exact ⟨(aK 0, aV 0), fun _ => ⟨h1.1 0 (by decide), h2 0 (by decide)⟩⟩
    · obtain ⟨aK, aV, h1, h2⟩ := vk_Sof (args := #[Value.ref b]) (s := s) (N := 1) (tm := fun _ => tmW 2) (len := [6]) (byt := [[114, 101, 109, 111, 118, 101]]) (A := fun q => s.heap.size ≤ q) (by decide) (fun i hi => (hs _ (List.mem_of_getElem? nf_855))) (fun i hi => (hs _ (List.mem_of_getElem? nf_856))) (fun i hi => (hs _ (List.mem_of_getElem? nf_857))) (fun i hi => by
        have e : i = 0 := by omega
        subst e
        exact (hs _ (List.mem_of_getElem? nf_858))) (fun i hi j hj => by
        have e : i = 0 := by omega
        subst e
        have hj : j < 6 := hj
        rcases j with _ | _ | _ | _ | _ | _ | j
        · exact (hs _ (List.mem_of_getElem? nf_859))
        · exact (hs _ (List.mem_of_getElem? nf_860))
        · exact (hs _ (List.mem_of_getElem? nf_861))
        · exact (hs _ (List.mem_of_getElem? nf_862))
        · exact (hs _ (List.mem_of_getElem? nf_863))
        · exact (hs _ (List.mem_of_getElem? nf_864))
        · omega) (fun i j hi hj hij => absurd (show i = j by omega) hij) hA
      exact ⟨(aK 0, aV 0), fun _ => ⟨h1.1 0 (by decide), h2 0 (by decide)⟩⟩
    · obtain ⟨aK, aV, h1, h2⟩ := vk_Sof (args := #[Value.ref b]) (s := s) (N := 1) (tm := fun _ => tmW 3) (len := [6]) (byt := [[105, 103, 110, 105, 116, 101]]) (A := fun q => s.heap.size ≤ q) (by decide) (fun i hi => (hs _ (List.mem_of_getElem? nf_865))) (fun i hi => (hs _ (List.mem_of_getElem? nf_866))) (fun i hi => (hs _ (List.mem_of_getElem? nf_867))) (fun i hi => by
        have e : i = 0 := by omega
        subst e
        exact (hs _ (List.mem_of_getElem? nf_868))) (fun i hi j hj => by
        have e : i = 0 := by omega
        subst e
        have hj : j < 6 := hj
        rcases j with _ | _ | _ | _ | _ | _ | j
        · exact (hs _ (List.mem_of_getElem? nf_869))
        · exact (hs _ (List.mem_of_getElem? nf_870))
        · exact (hs _ (List.mem_of_getElem? nf_871))
        · exact (hs _ (List.mem_of_getElem? nf_872))
        · exact (hs _ (List.mem_of_getElem? nf_873))
        · exact (hs _ (List.mem_of_getElem? nf_874))
        · omega) (fun i j hi hj hij => absurd (show i = j by omega) hij) hA
      exact ⟨(aK 0, aV 0), fun _ => ⟨h1.1 0 (by decide), h2 0 (by decide)⟩⟩
    · obtain ⟨aK, aV, h1, h2⟩ := vk_Sof (args := #[Value.ref b]) (s := s) (N := 1) (tm := fun _ => tmW 4) (len := [3]) (byt := [[100, 105, 103]]) (A := fun q => s.heap.size ≤ q) (by decide) (fun i hi => (hs _ (List.mem_of_getElem? nf_875))) (fun i hi => (hs _ (List.mem_of_getElem? nf_876))) (fun i hi => (hs _ (List.mem_of_getElem? nf_877))) (fun i hi => by
        have e : i = 0 := by omega
        subst e
        exact (hs _ (List.mem_of_getElem? nf_878))) (fun i hi j hj => by
        have e : i = 0 := by omega
        subst e
        have hj : j < 3 := hj
        rcases j with _ | _ | _ | j
        · exact (hs _ (List.mem_of_getElem? nf_879))
        · exact (hs _ (List.mem_of_getElem? nf_880))
        · exact (hs _ (List.mem_of_getElem? nf_881))
        · omega) (fun i j hi hj hij => absurd (show i = j by omega) hij) hA
      exact ⟨(aK 0, aV 0), fun _ => ⟨h1.1 0 (by decide), h2 0 (by decide)⟩⟩
    · obtain ⟨aK, aV, h1, h2⟩ := vk_Sof (args := #[Value.ref b]) (s := s) (N := 1) (tm := fun _ => tmW 5) (len := [5]) (byt := [[112, 114, 105, 99, 101]]) (A := fun q => s.heap.size ≤ q) (by decide) (fun i hi => (hs _ (List.mem_of_getElem? nf_882))) (fun i hi => (hs _ (List.mem_of_getElem? nf_883))) (fun i hi => (hs _ (List.mem_of_getElem? nf_884))) (fun i hi => by
        have e : i = 0 := by omega
        subst e
        exact (hs _ (List.mem_of_getElem? nf_885))) (fun i hi j hj => by
        have e : i = 0 := by omega
        subst e
        have hj : j < 5 := hj
        rcases j with _ | _ | _ | _ | _ | j
        · exact (hs _ (List.mem_of_getElem? nf_886))
        · exact (hs _ (List.mem_of_getElem? nf_887))
        · exact (hs _ (List.mem_of_getElem? nf_888))
        · exact (hs _ (List.mem_of_getElem? nf_889))
        · exact (hs _ (List.mem_of_getElem? nf_890))
        · omega) (fun i j hi hj hij => absurd (show i = j by omega) hij) hA
      exact ⟨(aK 0, aV 0), fun _ => ⟨h1.1 0 (by decide), h2 0 (by decide)⟩⟩
    · obtain ⟨aK, aV, h1, h2⟩ := vk_Sof (args := #[Value.ref b]) (s := s) (N := 1) (tm := fun _ => tmW 6) (len := [4]) (byt := [[115, 101, 108, 108]]) (A := fun q => s.heap.size ≤ q) (by decide) (fun i hi => (hs _ (List.mem_of_getElem? nf_891))) (fun i hi => (hs _ (List.mem_of_getElem? nf_892))) (fun i hi => (hs _ (List.mem_of_getElem? nf_893))) (fun i hi => by
        have e : i = 0 := by omega
        subst e
        exact (hs _ (List.mem_of_getElem? nf_894))) (fun i hi j hj => by
        have e : i = 0 := by omega
        subst e
        have hj : j < 4 := hj
        rcases j with _ | _ | _ | _ | j
        · exact (hs _ (List.mem_of_getElem? nf_895))
        · exact (hs _ (List.mem_of_getElem? nf_896))
        · exact (hs _ (List.mem_of_getElem? nf_897))
        · exact (hs _ (List.mem_of_getElem? nf_898))
        · omega) (fun i j hi hj hij => absurd (show i = j by omega) hij) hA
      exact ⟨(aK 0, aV 0), fun _ => ⟨h1.1 0 (by decide), h2 0 (by decide)⟩⟩
    · exact ⟨(0, 0), fun h => absurd h (by omega)⟩
  obtain ⟨ad, had⟩ := Classical.axiomOfChoice hW0
  have hWe : ∀ k, k < 7 → (tmW k).eval #[Value.ref b] s none [] s = some (.ref (ad k).1) := fun k hk => (had k hk).2
  obtain ⟨tC, htC, hTC⟩ := va_Tof (args := #[Value.ref b]) (s := s) (tm := .static "StoneQuarry$CommandText" "COMMANDS" "[LStoneQuarry$Command;") (ty := .object "StoneQuarry$Command") (N := 7) (f := fun j => .ref (aC j)) (A := fun q => s.heap.size ≤ q) (by decide) (hs _ (List.mem_of_getElem? nf_6)) (va_eqt (hs _ (List.mem_of_getElem? nf_7))) (fun k hk => by
    rcases k with _ | _ | _ | _ | _ | _ | _ | k
    · exact va_eqv (hs _ (List.mem_of_getElem? nf_9)) (haC 0 (by decide)).1
    · exact va_eqv (hs _ (List.mem_of_getElem? nf_10)) (haC 1 (by decide)).1
    · exact va_eqv (hs _ (List.mem_of_getElem? nf_11)) (haC 2 (by decide)).1
    · exact va_eqv (hs _ (List.mem_of_getElem? nf_12)) (haC 3 (by decide)).1
    · exact va_eqv (hs _ (List.mem_of_getElem? nf_13)) (haC 4 (by decide)).1
    · exact va_eqv (hs _ (List.mem_of_getElem? nf_14)) (haC 5 (by decide)).1
    · exact va_eqv (hs _ (List.mem_of_getElem? nf_15)) (haC 6 (by decide)).1
    · omega) hA
  obtain ⟨tS, htS, hTS⟩ := va_Tof (args := #[Value.ref b]) (s := s) (tm := .static "StoneQuarry$1" "$SwitchMap$StoneQuarry$Command" "[I") (ty := .int) (N := 7) (f := fun j => .int (smv j)) (A := fun q => s.heap.size ≤ q) (by decide) (hs _ (List.mem_of_getElem? nf_22)) (va_eqt (hs _ (List.mem_of_getElem? nf_23))) (fun k hk => by
    rcases k with _ | _ | _ | _ | _ | _ | _ | k
    · exact va_eqt (hs _ (List.mem_of_getElem? nf_24))
    · exact va_eqt (hs _ (List.mem_of_getElem? nf_25))
    · exact va_eqt (hs _ (List.mem_of_getElem? nf_26))
    · exact va_eqt (hs _ (List.mem_of_getElem? nf_27))
    · exact va_eqt (hs _ (List.mem_of_getElem? nf_28))
    · exact va_eqt (hs _ (List.mem_of_getElem? nf_29))
    · exact va_eqt (hs _ (List.mem_of_getElem? nf_30))
    · omega) hA
  refine ⟨KF aC (fun k => (ad k).1) (fun k => (ad k).2) tC tS, fun E hE => ?_⟩
  have e20 : E.1 1020 = tC := hE 1020 (by decide)
  have e21 : E.1 1021 = tS := hE 1021 (by decide)
  have eC : ∀ k, k < 7 → E.1 (1000 + k) = aC k := fun k hk => by rw [hE _ (by omega), KF_c _ _ _ _ _ _ hk]
  have eW : ∀ k, k < 7 → E.1 (1010 + k) = (ad k).1 := fun k hk => by rw [hE _ (by omega), KF_w _ _ _ _ _ _ hk]
  have eB : ∀ k, k < 7 → E.1 (1030 + k) = (ad k).2 := fun k hk => by rw [hE _ (by omega), KF_b _ _ _ _ _ _ hk]
  refine ⟨vx_Zqof (hts _ nt_673) (hts _ nt_88) (hs _ (List.mem_of_getElem? nf_2)) hA, vx_Zqof (hts _ nt_675) (hts _ nt_88) (hs _ (List.mem_of_getElem? nf_3)) hA, fun k hk => ?_, ?_, ?_, ?_, ?_, fun k hk => ?_, ?_, ?_⟩
  · rw [eC k hk, eW k hk]
    rcases k with _ | _ | _ | _ | _ | _ | _ | k
    · exact ⟨(haC 0 hk).2, vk_OFof (haC 0 hk).1 (va_eqt (hs _ (List.mem_of_getElem? nf_32))) hA, vk_OFof (haC 0 hk).1 (va_eqt (hs _ (List.mem_of_getElem? nf_34))) hA, vk_OFof (haC 0 hk).1 (va_eqt (hs _ (List.mem_of_getElem? nf_35))) hA, vk_OFof (haC 0 hk).1 (va_eqv (hs _ (List.mem_of_getElem? nf_33)) (hWe 0 hk)) hA⟩
    · exact ⟨(haC 1 hk).2, vk_OFof (haC 1 hk).1 (va_eqt (hs _ (List.mem_of_getElem? nf_37))) hA, vk_OFof (haC 1 hk).1 (va_eqt (hs _ (List.mem_of_getElem? nf_39))) hA, vk_OFof (haC 1 hk).1 (va_eqt (hs _ (List.mem_of_getElem? nf_40))) hA, vk_OFof (haC 1 hk).1 (va_eqv (hs _ (List.mem_of_getElem? nf_38)) (hWe 1 hk)) hA⟩
    · exact ⟨(haC 2 hk).2, vk_OFof (haC 2 hk).1 (va_eqt (hs _ (List.mem_of_getElem? nf_43))) hA, vk_OFof (haC 2 hk).1 (va_eqt (hs _ (List.mem_of_getElem? nf_45))) hA, vk_OFof (haC 2 hk).1 (va_eqt (hs _ (List.mem_of_getElem? nf_46))) hA, vk_OFof (haC 2 hk).1 (va_eqv (hs _ (List.mem_of_getElem? nf_44)) (hWe 2 hk)) hA⟩
    · exact ⟨(haC 3 hk).2, vk_OFof (haC 3 hk).1 (va_eqt (hs _ (List.mem_of_getElem? nf_50))) hA, vk_OFof (haC 3 hk).1 (va_eqt (hs _ (List.mem_of_getElem? nf_52))) hA, vk_OFof (haC 3 hk).1 (va_eqt (hs _ (List.mem_of_getElem? nf_53))) hA, vk_OFof (haC 3 hk).1 (va_eqv (hs _ (List.mem_of_getElem? nf_51)) (hWe 3 hk)) hA⟩
    · exact ⟨(haC 4 hk).2, vk_OFof (haC 4 hk).1 (va_eqt (hs _ (List.mem_of_getElem? nf_58))) hA, vk_OFof (haC 4 hk).1 (va_eqt (hs _ (List.mem_of_getElem? nf_60))) hA, vk_OFof (haC 4 hk).1 (va_eqt (hs _ (List.mem_of_getElem? nf_61))) hA, vk_OFof (haC 4 hk).1 (va_eqv (hs _ (List.mem_of_getElem? nf_59)) (hWe 4 hk)) hA⟩
    · exact ⟨(haC 5 hk).2, vk_OFof (haC 5 hk).1 (va_eqt (hs _ (List.mem_of_getElem? nf_67))) hA, vk_OFof (haC 5 hk).1 (va_eqt (hs _ (List.mem_of_getElem? nf_69))) hA, vk_OFof (haC 5 hk).1 (va_eqt (hs _ (List.mem_of_getElem? nf_70))) hA, vk_OFof (haC 5 hk).1 (va_eqv (hs _ (List.mem_of_getElem? nf_68)) (hWe 5 hk)) hA⟩
    · exact ⟨(haC 6 hk).2, vk_OFof (haC 6 hk).1 (va_eqt (hs _ (List.mem_of_getElem? nf_77))) hA, vk_OFof (haC 6 hk).1 (va_eqt (hs _ (List.mem_of_getElem? nf_79))) hA, vk_OFof (haC 6 hk).1 (va_eqt (hs _ (List.mem_of_getElem? nf_80))) hA, vk_OFof (haC 6 hk).1 (va_eqv (hs _ (List.mem_of_getElem? nf_78)) (hWe 6 hk)) hA⟩
    · omega
  · rw [e20]
    exact va_Zof (hts _ nt_1204) (hts _ nt_86) htC hA
  · rw [e20]
    obtain ⟨cell, z1, z2, z3, z4, z5, z6, z7⟩ := hTC
    exact ⟨cell, z1, z2, z3, z4, z5, fun j hj => by
        show cell.slots[j]? = some (Value.ref (E.1 (1000 + j)))
        rw [eC j hj]
        exact z6 j hj, z7⟩
  · rw [e21]
    exact va_Zof (hts _ nt_1296) (hts _ nt_104) htS hA
  · rw [e21]
    exact hTS
  · rw [eW k hk, eB k hk]
    have h0 := (had k hk).1
    rcases k with _ | _ | _ | _ | _ | _ | _ | k
    · exact h0
    · exact h0
    · exact h0
    · exact h0
    · exact h0
    · exact h0
    · exact h0
    · omega
  · exact va_Zof (hts _ nt_1218) (hts _ nt_98) (va_eqi (hs _ (List.mem_of_getElem? nf_16))) hA
  · exact va_Zqof (hts _ nt_1234) (hts _ nt_102) (hs _ (List.mem_of_getElem? nf_17)) hA
