theorem gE_0 {b : Nat} {s : State} (hs : ∀ c ∈ flatC (Jvm.Cond.and given_1 narrow_1), c.before #[.ref b] s = true) : Jvm.Cond.before (Jvm.Cond.exactly (Jvm.Term.static "PageGarden$Command" "BEGIN" "LPageGarden$Command;") "PageGarden$Command") #[.ref b] s = true := hs _ (List.mem_of_getElem? (i := 33) (by decide +kernel))
theorem gO_0 {b : Nat} {s : State} (hs : ∀ c ∈ flatC (Jvm.Cond.and given_1 narrow_1), c.before #[.ref b] s = true) : Jvm.Cond.before (Jvm.Cond.eq (Jvm.Term.field (Jvm.Term.static "PageGarden$Command" "BEGIN" "LPageGarden$Command;") "java/lang/Enum" "ordinal" "I") (Jvm.Term.int (0 : Int32))) #[.ref b] s = true := hs _ (List.mem_of_getElem? (i := 34) (by decide +kernel))
theorem gW_0 {b : Nat} {s : State} (hs : ∀ c ∈ flatC (Jvm.Cond.and given_1 narrow_1), c.before #[.ref b] s = true) : Jvm.Cond.before (Jvm.Cond.eq (Jvm.Term.field (Jvm.Term.static "PageGarden$Command" "BEGIN" "LPageGarden$Command;") "PageGarden$Command" "word" "Ljava/lang/String;") (Jvm.Term.string "PageGarden$Command" (53 : Nat))) #[.ref b] s = true := hs _ (List.mem_of_getElem? (i := 35) (by decide +kernel))
theorem gN_0 {b : Nat} {s : State} (hs : ∀ c ∈ flatC (Jvm.Cond.and given_1 narrow_1), c.before #[.ref b] s = true) : Jvm.Cond.before (Jvm.Cond.eq (Jvm.Term.field (Jvm.Term.static "PageGarden$Command" "BEGIN" "LPageGarden$Command;") "PageGarden$Command" "numbers" "I") (Jvm.Term.int (0 : Int32))) #[.ref b] s = true := hs _ (List.mem_of_getElem? (i := 36) (by decide +kernel))
theorem gC_0 {b : Nat} {s : State} (hs : ∀ c ∈ flatC (Jvm.Cond.and given_1 narrow_1), c.before #[.ref b] s = true) : Jvm.Cond.before (Jvm.Cond.eq (Jvm.Term.elem (Jvm.Term.static "PageGarden" "COMMANDS" "[LPageGarden$Command;") (Jvm.Term.int (0 : Int32))) (Jvm.Term.static "PageGarden$Command" "BEGIN" "LPageGarden$Command;")) #[.ref b] s = true := hs _ (List.mem_of_getElem? (i := 9) (by decide +kernel))
theorem gM_0 {b : Nat} {s : State} (hs : ∀ c ∈ flatC (Jvm.Cond.and given_1 narrow_1), c.before #[.ref b] s = true) : Jvm.Cond.before (Jvm.Cond.eq (Jvm.Term.elem (Jvm.Term.static "PageGarden$1" "$SwitchMap$PageGarden$Command" "[I") (Jvm.Term.int (0 : Int32))) (Jvm.Term.int (1 : Int32))) #[.ref b] s = true := hs _ (List.mem_of_getElem? (i := 24) (by decide +kernel))
theorem gS_0 {b : Nat} {s : State} (hs : ∀ c ∈ flatC (Jvm.Cond.and given_1 narrow_1), c.before #[.ref b] s = true) : Jvm.Cond.before (Jvm.Cond.exactly (Jvm.Term.string "PageGarden$Command" (53 : Nat)) "java/lang/String") #[.ref b] s = true := hs _ (List.mem_of_getElem? (i := 213) (by decide +kernel))
theorem gSc_0 {b : Nat} {s : State} (hs : ∀ c ∈ flatC (Jvm.Cond.and given_1 narrow_1), c.before #[.ref b] s = true) : Jvm.Cond.before (Jvm.Cond.eq (Jvm.Term.field (Jvm.Term.string "PageGarden$Command" (53 : Nat)) "java/lang/String" "coder" "B") (Jvm.Term.int (0 : Int32))) #[.ref b] s = true := hs _ (List.mem_of_getElem? (i := 214) (by decide +kernel))
theorem gSa_0 {b : Nat} {s : State} (hs : ∀ c ∈ flatC (Jvm.Cond.and given_1 narrow_1), c.before #[.ref b] s = true) : Jvm.Cond.before (Jvm.Cond.arrayOf (Jvm.Term.field (Jvm.Term.string "PageGarden$Command" (53 : Nat)) "java/lang/String" "value" "[B") Jvm.ClassFile.FieldType.byte) #[.ref b] s = true := hs _ (List.mem_of_getElem? (i := 215) (by decide +kernel))
theorem gSl_0 {b : Nat} {s : State} (hs : ∀ c ∈ flatC (Jvm.Cond.and given_1 narrow_1), c.before #[.ref b] s = true) : Jvm.Cond.before (Jvm.Cond.eq (Jvm.Term.length (Jvm.Term.field (Jvm.Term.string "PageGarden$Command" (53 : Nat)) "java/lang/String" "value" "[B")) (Jvm.Term.int (5 : Int32))) #[.ref b] s = true := hs _ (List.mem_of_getElem? (i := 216) (by decide +kernel))
theorem gSe_0_0 {b : Nat} {s : State} (hs : ∀ c ∈ flatC (Jvm.Cond.and given_1 narrow_1), c.before #[.ref b] s = true) : Jvm.Cond.before (Jvm.Cond.eq (Jvm.Term.elem (Jvm.Term.field (Jvm.Term.string "PageGarden$Command" (53 : Nat)) "java/lang/String" "value" "[B") (Jvm.Term.int (0 : Int32))) (Jvm.Term.int (98 : Int32))) #[.ref b] s = true := hs _ (List.mem_of_getElem? (i := 217) (by decide +kernel))
theorem gSe_0_1 {b : Nat} {s : State} (hs : ∀ c ∈ flatC (Jvm.Cond.and given_1 narrow_1), c.before #[.ref b] s = true) : Jvm.Cond.before (Jvm.Cond.eq (Jvm.Term.elem (Jvm.Term.field (Jvm.Term.string "PageGarden$Command" (53 : Nat)) "java/lang/String" "value" "[B") (Jvm.Term.int (1 : Int32))) (Jvm.Term.int (101 : Int32))) #[.ref b] s = true := hs _ (List.mem_of_getElem? (i := 218) (by decide +kernel))
theorem gSe_0_2 {b : Nat} {s : State} (hs : ∀ c ∈ flatC (Jvm.Cond.and given_1 narrow_1), c.before #[.ref b] s = true) : Jvm.Cond.before (Jvm.Cond.eq (Jvm.Term.elem (Jvm.Term.field (Jvm.Term.string "PageGarden$Command" (53 : Nat)) "java/lang/String" "value" "[B") (Jvm.Term.int (2 : Int32))) (Jvm.Term.int (103 : Int32))) #[.ref b] s = true := hs _ (List.mem_of_getElem? (i := 219) (by decide +kernel))
theorem gSe_0_3 {b : Nat} {s : State} (hs : ∀ c ∈ flatC (Jvm.Cond.and given_1 narrow_1), c.before #[.ref b] s = true) : Jvm.Cond.before (Jvm.Cond.eq (Jvm.Term.elem (Jvm.Term.field (Jvm.Term.string "PageGarden$Command" (53 : Nat)) "java/lang/String" "value" "[B") (Jvm.Term.int (3 : Int32))) (Jvm.Term.int (105 : Int32))) #[.ref b] s = true := hs _ (List.mem_of_getElem? (i := 220) (by decide +kernel))
theorem gSe_0_4 {b : Nat} {s : State} (hs : ∀ c ∈ flatC (Jvm.Cond.and given_1 narrow_1), c.before #[.ref b] s = true) : Jvm.Cond.before (Jvm.Cond.eq (Jvm.Term.elem (Jvm.Term.field (Jvm.Term.string "PageGarden$Command" (53 : Nat)) "java/lang/String" "value" "[B") (Jvm.Term.int (4 : Int32))) (Jvm.Term.int (110 : Int32))) #[.ref b] s = true := hs _ (List.mem_of_getElem? (i := 221) (by decide +kernel))
theorem gE_1 {b : Nat} {s : State} (hs : ∀ c ∈ flatC (Jvm.Cond.and given_1 narrow_1), c.before #[.ref b] s = true) : Jvm.Cond.before (Jvm.Cond.exactly (Jvm.Term.static "PageGarden$Command" "PUT" "LPageGarden$Command;") "PageGarden$Command") #[.ref b] s = true := hs _ (List.mem_of_getElem? (i := 37) (by decide +kernel))
theorem gO_1 {b : Nat} {s : State} (hs : ∀ c ∈ flatC (Jvm.Cond.and given_1 narrow_1), c.before #[.ref b] s = true) : Jvm.Cond.before (Jvm.Cond.eq (Jvm.Term.field (Jvm.Term.static "PageGarden$Command" "PUT" "LPageGarden$Command;") "java/lang/Enum" "ordinal" "I") (Jvm.Term.int (1 : Int32))) #[.ref b] s = true := hs _ (List.mem_of_getElem? (i := 38) (by decide +kernel))
theorem gW_1 {b : Nat} {s : State} (hs : ∀ c ∈ flatC (Jvm.Cond.and given_1 narrow_1), c.before #[.ref b] s = true) : Jvm.Cond.before (Jvm.Cond.eq (Jvm.Term.field (Jvm.Term.static "PageGarden$Command" "PUT" "LPageGarden$Command;") "PageGarden$Command" "word" "Ljava/lang/String;") (Jvm.Term.string "PageGarden$Command" (59 : Nat))) #[.ref b] s = true := hs _ (List.mem_of_getElem? (i := 39) (by decide +kernel))
theorem gN_1 {b : Nat} {s : State} (hs : ∀ c ∈ flatC (Jvm.Cond.and given_1 narrow_1), c.before #[.ref b] s = true) : Jvm.Cond.before (Jvm.Cond.eq (Jvm.Term.field (Jvm.Term.static "PageGarden$Command" "PUT" "LPageGarden$Command;") "PageGarden$Command" "numbers" "I") (Jvm.Term.int (2 : Int32))) #[.ref b] s = true := hs _ (List.mem_of_getElem? (i := 40) (by decide +kernel))
theorem gC_1 {b : Nat} {s : State} (hs : ∀ c ∈ flatC (Jvm.Cond.and given_1 narrow_1), c.before #[.ref b] s = true) : Jvm.Cond.before (Jvm.Cond.eq (Jvm.Term.elem (Jvm.Term.static "PageGarden" "COMMANDS" "[LPageGarden$Command;") (Jvm.Term.int (1 : Int32))) (Jvm.Term.static "PageGarden$Command" "PUT" "LPageGarden$Command;")) #[.ref b] s = true := hs _ (List.mem_of_getElem? (i := 10) (by decide +kernel))
theorem gM_1 {b : Nat} {s : State} (hs : ∀ c ∈ flatC (Jvm.Cond.and given_1 narrow_1), c.before #[.ref b] s = true) : Jvm.Cond.before (Jvm.Cond.eq (Jvm.Term.elem (Jvm.Term.static "PageGarden$1" "$SwitchMap$PageGarden$Command" "[I") (Jvm.Term.int (1 : Int32))) (Jvm.Term.int (2 : Int32))) #[.ref b] s = true := hs _ (List.mem_of_getElem? (i := 25) (by decide +kernel))
theorem gS_1 {b : Nat} {s : State} (hs : ∀ c ∈ flatC (Jvm.Cond.and given_1 narrow_1), c.before #[.ref b] s = true) : Jvm.Cond.before (Jvm.Cond.exactly (Jvm.Term.string "PageGarden$Command" (59 : Nat)) "java/lang/String") #[.ref b] s = true := hs _ (List.mem_of_getElem? (i := 225) (by decide +kernel))
theorem gSc_1 {b : Nat} {s : State} (hs : ∀ c ∈ flatC (Jvm.Cond.and given_1 narrow_1), c.before #[.ref b] s = true) : Jvm.Cond.before (Jvm.Cond.eq (Jvm.Term.field (Jvm.Term.string "PageGarden$Command" (59 : Nat)) "java/lang/String" "coder" "B") (Jvm.Term.int (0 : Int32))) #[.ref b] s = true := hs _ (List.mem_of_getElem? (i := 226) (by decide +kernel))
theorem gSa_1 {b : Nat} {s : State} (hs : ∀ c ∈ flatC (Jvm.Cond.and given_1 narrow_1), c.before #[.ref b] s = true) : Jvm.Cond.before (Jvm.Cond.arrayOf (Jvm.Term.field (Jvm.Term.string "PageGarden$Command" (59 : Nat)) "java/lang/String" "value" "[B") Jvm.ClassFile.FieldType.byte) #[.ref b] s = true := hs _ (List.mem_of_getElem? (i := 227) (by decide +kernel))
theorem gSl_1 {b : Nat} {s : State} (hs : ∀ c ∈ flatC (Jvm.Cond.and given_1 narrow_1), c.before #[.ref b] s = true) : Jvm.Cond.before (Jvm.Cond.eq (Jvm.Term.length (Jvm.Term.field (Jvm.Term.string "PageGarden$Command" (59 : Nat)) "java/lang/String" "value" "[B")) (Jvm.Term.int (3 : Int32))) #[.ref b] s = true := hs _ (List.mem_of_getElem? (i := 228) (by decide +kernel))
theorem gSe_1_0 {b : Nat} {s : State} (hs : ∀ c ∈ flatC (Jvm.Cond.and given_1 narrow_1), c.before #[.ref b] s = true) : Jvm.Cond.before (Jvm.Cond.eq (Jvm.Term.elem (Jvm.Term.field (Jvm.Term.string "PageGarden$Command" (59 : Nat)) "java/lang/String" "value" "[B") (Jvm.Term.int (0 : Int32))) (Jvm.Term.int (112 : Int32))) #[.ref b] s = true := hs _ (List.mem_of_getElem? (i := 229) (by decide +kernel))
theorem gSe_1_1 {b : Nat} {s : State} (hs : ∀ c ∈ flatC (Jvm.Cond.and given_1 narrow_1), c.before #[.ref b] s = true) : Jvm.Cond.before (Jvm.Cond.eq (Jvm.Term.elem (Jvm.Term.field (Jvm.Term.string "PageGarden$Command" (59 : Nat)) "java/lang/String" "value" "[B") (Jvm.Term.int (1 : Int32))) (Jvm.Term.int (117 : Int32))) #[.ref b] s = true := hs _ (List.mem_of_getElem? (i := 230) (by decide +kernel))
theorem gSe_1_2 {b : Nat} {s : State} (hs : ∀ c ∈ flatC (Jvm.Cond.and given_1 narrow_1), c.before #[.ref b] s = true) : Jvm.Cond.before (Jvm.Cond.eq (Jvm.Term.elem (Jvm.Term.field (Jvm.Term.string "PageGarden$Command" (59 : Nat)) "java/lang/String" "value" "[B") (Jvm.Term.int (2 : Int32))) (Jvm.Term.int (116 : Int32))) #[.ref b] s = true := hs _ (List.mem_of_getElem? (i := 231) (by decide +kernel))
theorem gSn_0_1 {b : Nat} {s : State} (hs : ∀ c ∈ flatC (Jvm.Cond.and given_1 narrow_1), c.before #[.ref b] s = true) : Jvm.Cond.before (Jvm.Cond.not (Jvm.Cond.eq (Jvm.Term.string "PageGarden$Command" (53 : Nat)) (Jvm.Term.string "PageGarden$Command" (59 : Nat)))) #[.ref b] s = true := hs _ (List.mem_of_getElem? (i := 235) (by decide +kernel))
theorem gE_2 {b : Nat} {s : State} (hs : ∀ c ∈ flatC (Jvm.Cond.and given_1 narrow_1), c.before #[.ref b] s = true) : Jvm.Cond.before (Jvm.Cond.exactly (Jvm.Term.static "PageGarden$Command" "DROP" "LPageGarden$Command;") "PageGarden$Command") #[.ref b] s = true := hs _ (List.mem_of_getElem? (i := 42) (by decide +kernel))
theorem gO_2 {b : Nat} {s : State} (hs : ∀ c ∈ flatC (Jvm.Cond.and given_1 narrow_1), c.before #[.ref b] s = true) : Jvm.Cond.before (Jvm.Cond.eq (Jvm.Term.field (Jvm.Term.static "PageGarden$Command" "DROP" "LPageGarden$Command;") "java/lang/Enum" "ordinal" "I") (Jvm.Term.int (2 : Int32))) #[.ref b] s = true := hs _ (List.mem_of_getElem? (i := 43) (by decide +kernel))
theorem gW_2 {b : Nat} {s : State} (hs : ∀ c ∈ flatC (Jvm.Cond.and given_1 narrow_1), c.before #[.ref b] s = true) : Jvm.Cond.before (Jvm.Cond.eq (Jvm.Term.field (Jvm.Term.static "PageGarden$Command" "DROP" "LPageGarden$Command;") "PageGarden$Command" "word" "Ljava/lang/String;") (Jvm.Term.string "PageGarden$Command" (62 : Nat))) #[.ref b] s = true := hs _ (List.mem_of_getElem? (i := 44) (by decide +kernel))
theorem gN_2 {b : Nat} {s : State} (hs : ∀ c ∈ flatC (Jvm.Cond.and given_1 narrow_1), c.before #[.ref b] s = true) : Jvm.Cond.before (Jvm.Cond.eq (Jvm.Term.field (Jvm.Term.static "PageGarden$Command" "DROP" "LPageGarden$Command;") "PageGarden$Command" "numbers" "I") (Jvm.Term.int (1 : Int32))) #[.ref b] s = true := hs _ (List.mem_of_getElem? (i := 45) (by decide +kernel))
theorem gC_2 {b : Nat} {s : State} (hs : ∀ c ∈ flatC (Jvm.Cond.and given_1 narrow_1), c.before #[.ref b] s = true) : Jvm.Cond.before (Jvm.Cond.eq (Jvm.Term.elem (Jvm.Term.static "PageGarden" "COMMANDS" "[LPageGarden$Command;") (Jvm.Term.int (2 : Int32))) (Jvm.Term.static "PageGarden$Command" "DROP" "LPageGarden$Command;")) #[.ref b] s = true := hs _ (List.mem_of_getElem? (i := 11) (by decide +kernel))
theorem gM_2 {b : Nat} {s : State} (hs : ∀ c ∈ flatC (Jvm.Cond.and given_1 narrow_1), c.before #[.ref b] s = true) : Jvm.Cond.before (Jvm.Cond.eq (Jvm.Term.elem (Jvm.Term.static "PageGarden$1" "$SwitchMap$PageGarden$Command" "[I") (Jvm.Term.int (2 : Int32))) (Jvm.Term.int (3 : Int32))) #[.ref b] s = true := hs _ (List.mem_of_getElem? (i := 26) (by decide +kernel))
theorem gS_2 {b : Nat} {s : State} (hs : ∀ c ∈ flatC (Jvm.Cond.and given_1 narrow_1), c.before #[.ref b] s = true) : Jvm.Cond.before (Jvm.Cond.exactly (Jvm.Term.string "PageGarden$Command" (62 : Nat)) "java/lang/String") #[.ref b] s = true := hs _ (List.mem_of_getElem? (i := 236) (by decide +kernel))
theorem gSc_2 {b : Nat} {s : State} (hs : ∀ c ∈ flatC (Jvm.Cond.and given_1 narrow_1), c.before #[.ref b] s = true) : Jvm.Cond.before (Jvm.Cond.eq (Jvm.Term.field (Jvm.Term.string "PageGarden$Command" (62 : Nat)) "java/lang/String" "coder" "B") (Jvm.Term.int (0 : Int32))) #[.ref b] s = true := hs _ (List.mem_of_getElem? (i := 237) (by decide +kernel))
theorem gSa_2 {b : Nat} {s : State} (hs : ∀ c ∈ flatC (Jvm.Cond.and given_1 narrow_1), c.before #[.ref b] s = true) : Jvm.Cond.before (Jvm.Cond.arrayOf (Jvm.Term.field (Jvm.Term.string "PageGarden$Command" (62 : Nat)) "java/lang/String" "value" "[B") Jvm.ClassFile.FieldType.byte) #[.ref b] s = true := hs _ (List.mem_of_getElem? (i := 238) (by decide +kernel))
theorem gSl_2 {b : Nat} {s : State} (hs : ∀ c ∈ flatC (Jvm.Cond.and given_1 narrow_1), c.before #[.ref b] s = true) : Jvm.Cond.before (Jvm.Cond.eq (Jvm.Term.length (Jvm.Term.field (Jvm.Term.string "PageGarden$Command" (62 : Nat)) "java/lang/String" "value" "[B")) (Jvm.Term.int (4 : Int32))) #[.ref b] s = true := hs _ (List.mem_of_getElem? (i := 239) (by decide +kernel))
theorem gSe_2_0 {b : Nat} {s : State} (hs : ∀ c ∈ flatC (Jvm.Cond.and given_1 narrow_1), c.before #[.ref b] s = true) : Jvm.Cond.before (Jvm.Cond.eq (Jvm.Term.elem (Jvm.Term.field (Jvm.Term.string "PageGarden$Command" (62 : Nat)) "java/lang/String" "value" "[B") (Jvm.Term.int (0 : Int32))) (Jvm.Term.int (100 : Int32))) #[.ref b] s = true := hs _ (List.mem_of_getElem? (i := 240) (by decide +kernel))
theorem gSe_2_1 {b : Nat} {s : State} (hs : ∀ c ∈ flatC (Jvm.Cond.and given_1 narrow_1), c.before #[.ref b] s = true) : Jvm.Cond.before (Jvm.Cond.eq (Jvm.Term.elem (Jvm.Term.field (Jvm.Term.string "PageGarden$Command" (62 : Nat)) "java/lang/String" "value" "[B") (Jvm.Term.int (1 : Int32))) (Jvm.Term.int (114 : Int32))) #[.ref b] s = true := hs _ (List.mem_of_getElem? (i := 241) (by decide +kernel))
theorem gSe_2_2 {b : Nat} {s : State} (hs : ∀ c ∈ flatC (Jvm.Cond.and given_1 narrow_1), c.before #[.ref b] s = true) : Jvm.Cond.before (Jvm.Cond.eq (Jvm.Term.elem (Jvm.Term.field (Jvm.Term.string "PageGarden$Command" (62 : Nat)) "java/lang/String" "value" "[B") (Jvm.Term.int (2 : Int32))) (Jvm.Term.int (111 : Int32))) #[.ref b] s = true := hs _ (List.mem_of_getElem? (i := 242) (by decide +kernel))
theorem gSe_2_3 {b : Nat} {s : State} (hs : ∀ c ∈ flatC (Jvm.Cond.and given_1 narrow_1), c.before #[.ref b] s = true) : Jvm.Cond.before (Jvm.Cond.eq (Jvm.Term.elem (Jvm.Term.field (Jvm.Term.string "PageGarden$Command" (62 : Nat)) "java/lang/String" "value" "[B") (Jvm.Term.int (3 : Int32))) (Jvm.Term.int (112 : Int32))) #[.ref b] s = true := hs _ (List.mem_of_getElem? (i := 243) (by decide +kernel))
theorem gSn_0_2 {b : Nat} {s : State} (hs : ∀ c ∈ flatC (Jvm.Cond.and given_1 narrow_1), c.before #[.ref b] s = true) : Jvm.Cond.before (Jvm.Cond.not (Jvm.Cond.eq (Jvm.Term.string "PageGarden$Command" (53 : Nat)) (Jvm.Term.string "PageGarden$Command" (62 : Nat)))) #[.ref b] s = true := hs _ (List.mem_of_getElem? (i := 247) (by decide +kernel))
theorem gSn_1_2 {b : Nat} {s : State} (hs : ∀ c ∈ flatC (Jvm.Cond.and given_1 narrow_1), c.before #[.ref b] s = true) : Jvm.Cond.before (Jvm.Cond.not (Jvm.Cond.eq (Jvm.Term.string "PageGarden$Command" (59 : Nat)) (Jvm.Term.string "PageGarden$Command" (62 : Nat)))) #[.ref b] s = true := hs _ (List.mem_of_getElem? (i := 248) (by decide +kernel))
theorem gE_3 {b : Nat} {s : State} (hs : ∀ c ∈ flatC (Jvm.Cond.and given_1 narrow_1), c.before #[.ref b] s = true) : Jvm.Cond.before (Jvm.Cond.exactly (Jvm.Term.static "PageGarden$Command" "COMMIT" "LPageGarden$Command;") "PageGarden$Command") #[.ref b] s = true := hs _ (List.mem_of_getElem? (i := 48) (by decide +kernel))
theorem gO_3 {b : Nat} {s : State} (hs : ∀ c ∈ flatC (Jvm.Cond.and given_1 narrow_1), c.before #[.ref b] s = true) : Jvm.Cond.before (Jvm.Cond.eq (Jvm.Term.field (Jvm.Term.static "PageGarden$Command" "COMMIT" "LPageGarden$Command;") "java/lang/Enum" "ordinal" "I") (Jvm.Term.int (3 : Int32))) #[.ref b] s = true := hs _ (List.mem_of_getElem? (i := 49) (by decide +kernel))
theorem gW_3 {b : Nat} {s : State} (hs : ∀ c ∈ flatC (Jvm.Cond.and given_1 narrow_1), c.before #[.ref b] s = true) : Jvm.Cond.before (Jvm.Cond.eq (Jvm.Term.field (Jvm.Term.static "PageGarden$Command" "COMMIT" "LPageGarden$Command;") "PageGarden$Command" "word" "Ljava/lang/String;") (Jvm.Term.string "PageGarden$Command" (65 : Nat))) #[.ref b] s = true := hs _ (List.mem_of_getElem? (i := 50) (by decide +kernel))
theorem gN_3 {b : Nat} {s : State} (hs : ∀ c ∈ flatC (Jvm.Cond.and given_1 narrow_1), c.before #[.ref b] s = true) : Jvm.Cond.before (Jvm.Cond.eq (Jvm.Term.field (Jvm.Term.static "PageGarden$Command" "COMMIT" "LPageGarden$Command;") "PageGarden$Command" "numbers" "I") (Jvm.Term.int (1 : Int32))) #[.ref b] s = true := hs _ (List.mem_of_getElem? (i := 51) (by decide +kernel))
theorem gC_3 {b : Nat} {s : State} (hs : ∀ c ∈ flatC (Jvm.Cond.and given_1 narrow_1), c.before #[.ref b] s = true) : Jvm.Cond.before (Jvm.Cond.eq (Jvm.Term.elem (Jvm.Term.static "PageGarden" "COMMANDS" "[LPageGarden$Command;") (Jvm.Term.int (3 : Int32))) (Jvm.Term.static "PageGarden$Command" "COMMIT" "LPageGarden$Command;")) #[.ref b] s = true := hs _ (List.mem_of_getElem? (i := 12) (by decide +kernel))
theorem gM_3 {b : Nat} {s : State} (hs : ∀ c ∈ flatC (Jvm.Cond.and given_1 narrow_1), c.before #[.ref b] s = true) : Jvm.Cond.before (Jvm.Cond.eq (Jvm.Term.elem (Jvm.Term.static "PageGarden$1" "$SwitchMap$PageGarden$Command" "[I") (Jvm.Term.int (3 : Int32))) (Jvm.Term.int (4 : Int32))) #[.ref b] s = true := hs _ (List.mem_of_getElem? (i := 27) (by decide +kernel))
theorem gS_3 {b : Nat} {s : State} (hs : ∀ c ∈ flatC (Jvm.Cond.and given_1 narrow_1), c.before #[.ref b] s = true) : Jvm.Cond.before (Jvm.Cond.exactly (Jvm.Term.string "PageGarden$Command" (65 : Nat)) "java/lang/String") #[.ref b] s = true := hs _ (List.mem_of_getElem? (i := 249) (by decide +kernel))
theorem gSc_3 {b : Nat} {s : State} (hs : ∀ c ∈ flatC (Jvm.Cond.and given_1 narrow_1), c.before #[.ref b] s = true) : Jvm.Cond.before (Jvm.Cond.eq (Jvm.Term.field (Jvm.Term.string "PageGarden$Command" (65 : Nat)) "java/lang/String" "coder" "B") (Jvm.Term.int (0 : Int32))) #[.ref b] s = true := hs _ (List.mem_of_getElem? (i := 250) (by decide +kernel))
theorem gSa_3 {b : Nat} {s : State} (hs : ∀ c ∈ flatC (Jvm.Cond.and given_1 narrow_1), c.before #[.ref b] s = true) : Jvm.Cond.before (Jvm.Cond.arrayOf (Jvm.Term.field (Jvm.Term.string "PageGarden$Command" (65 : Nat)) "java/lang/String" "value" "[B") Jvm.ClassFile.FieldType.byte) #[.ref b] s = true := hs _ (List.mem_of_getElem? (i := 251) (by decide +kernel))
theorem gSl_3 {b : Nat} {s : State} (hs : ∀ c ∈ flatC (Jvm.Cond.and given_1 narrow_1), c.before #[.ref b] s = true) : Jvm.Cond.before (Jvm.Cond.eq (Jvm.Term.length (Jvm.Term.field (Jvm.Term.string "PageGarden$Command" (65 : Nat)) "java/lang/String" "value" "[B")) (Jvm.Term.int (6 : Int32))) #[.ref b] s = true := hs _ (List.mem_of_getElem? (i := 252) (by decide +kernel))
theorem gSe_3_0 {b : Nat} {s : State} (hs : ∀ c ∈ flatC (Jvm.Cond.and given_1 narrow_1), c.before #[.ref b] s = true) : Jvm.Cond.before (Jvm.Cond.eq (Jvm.Term.elem (Jvm.Term.field (Jvm.Term.string "PageGarden$Command" (65 : Nat)) "java/lang/String" "value" "[B") (Jvm.Term.int (0 : Int32))) (Jvm.Term.int (99 : Int32))) #[.ref b] s = true := hs _ (List.mem_of_getElem? (i := 253) (by decide +kernel))
theorem gSe_3_1 {b : Nat} {s : State} (hs : ∀ c ∈ flatC (Jvm.Cond.and given_1 narrow_1), c.before #[.ref b] s = true) : Jvm.Cond.before (Jvm.Cond.eq (Jvm.Term.elem (Jvm.Term.field (Jvm.Term.string "PageGarden$Command" (65 : Nat)) "java/lang/String" "value" "[B") (Jvm.Term.int (1 : Int32))) (Jvm.Term.int (111 : Int32))) #[.ref b] s = true := hs _ (List.mem_of_getElem? (i := 254) (by decide +kernel))
theorem gSe_3_2 {b : Nat} {s : State} (hs : ∀ c ∈ flatC (Jvm.Cond.and given_1 narrow_1), c.before #[.ref b] s = true) : Jvm.Cond.before (Jvm.Cond.eq (Jvm.Term.elem (Jvm.Term.field (Jvm.Term.string "PageGarden$Command" (65 : Nat)) "java/lang/String" "value" "[B") (Jvm.Term.int (2 : Int32))) (Jvm.Term.int (109 : Int32))) #[.ref b] s = true := hs _ (List.mem_of_getElem? (i := 255) (by decide +kernel))
theorem gSe_3_3 {b : Nat} {s : State} (hs : ∀ c ∈ flatC (Jvm.Cond.and given_1 narrow_1), c.before #[.ref b] s = true) : Jvm.Cond.before (Jvm.Cond.eq (Jvm.Term.elem (Jvm.Term.field (Jvm.Term.string "PageGarden$Command" (65 : Nat)) "java/lang/String" "value" "[B") (Jvm.Term.int (3 : Int32))) (Jvm.Term.int (109 : Int32))) #[.ref b] s = true := hs _ (List.mem_of_getElem? (i := 256) (by decide +kernel))
theorem gSe_3_4 {b : Nat} {s : State} (hs : ∀ c ∈ flatC (Jvm.Cond.and given_1 narrow_1), c.before #[.ref b] s = true) : Jvm.Cond.before (Jvm.Cond.eq (Jvm.Term.elem (Jvm.Term.field (Jvm.Term.string "PageGarden$Command" (65 : Nat)) "java/lang/String" "value" "[B") (Jvm.Term.int (4 : Int32))) (Jvm.Term.int (105 : Int32))) #[.ref b] s = true := hs _ (List.mem_of_getElem? (i := 257) (by decide +kernel))
theorem gSe_3_5 {b : Nat} {s : State} (hs : ∀ c ∈ flatC (Jvm.Cond.and given_1 narrow_1), c.before #[.ref b] s = true) : Jvm.Cond.before (Jvm.Cond.eq (Jvm.Term.elem (Jvm.Term.field (Jvm.Term.string "PageGarden$Command" (65 : Nat)) "java/lang/String" "value" "[B") (Jvm.Term.int (5 : Int32))) (Jvm.Term.int (116 : Int32))) #[.ref b] s = true := hs _ (List.mem_of_getElem? (i := 258) (by decide +kernel))
theorem gSn_0_3 {b : Nat} {s : State} (hs : ∀ c ∈ flatC (Jvm.Cond.and given_1 narrow_1), c.before #[.ref b] s = true) : Jvm.Cond.before (Jvm.Cond.not (Jvm.Cond.eq (Jvm.Term.string "PageGarden$Command" (53 : Nat)) (Jvm.Term.string "PageGarden$Command" (65 : Nat)))) #[.ref b] s = true := hs _ (List.mem_of_getElem? (i := 262) (by decide +kernel))
theorem gSn_1_3 {b : Nat} {s : State} (hs : ∀ c ∈ flatC (Jvm.Cond.and given_1 narrow_1), c.before #[.ref b] s = true) : Jvm.Cond.before (Jvm.Cond.not (Jvm.Cond.eq (Jvm.Term.string "PageGarden$Command" (59 : Nat)) (Jvm.Term.string "PageGarden$Command" (65 : Nat)))) #[.ref b] s = true := hs _ (List.mem_of_getElem? (i := 263) (by decide +kernel))
theorem gSn_2_3 {b : Nat} {s : State} (hs : ∀ c ∈ flatC (Jvm.Cond.and given_1 narrow_1), c.before #[.ref b] s = true) : Jvm.Cond.before (Jvm.Cond.not (Jvm.Cond.eq (Jvm.Term.string "PageGarden$Command" (62 : Nat)) (Jvm.Term.string "PageGarden$Command" (65 : Nat)))) #[.ref b] s = true := hs _ (List.mem_of_getElem? (i := 264) (by decide +kernel))
theorem gE_4 {b : Nat} {s : State} (hs : ∀ c ∈ flatC (Jvm.Cond.and given_1 narrow_1), c.before #[.ref b] s = true) : Jvm.Cond.before (Jvm.Cond.exactly (Jvm.Term.static "PageGarden$Command" "ABORT" "LPageGarden$Command;") "PageGarden$Command") #[.ref b] s = true := hs _ (List.mem_of_getElem? (i := 55) (by decide +kernel))
theorem gO_4 {b : Nat} {s : State} (hs : ∀ c ∈ flatC (Jvm.Cond.and given_1 narrow_1), c.before #[.ref b] s = true) : Jvm.Cond.before (Jvm.Cond.eq (Jvm.Term.field (Jvm.Term.static "PageGarden$Command" "ABORT" "LPageGarden$Command;") "java/lang/Enum" "ordinal" "I") (Jvm.Term.int (4 : Int32))) #[.ref b] s = true := hs _ (List.mem_of_getElem? (i := 56) (by decide +kernel))
theorem gW_4 {b : Nat} {s : State} (hs : ∀ c ∈ flatC (Jvm.Cond.and given_1 narrow_1), c.before #[.ref b] s = true) : Jvm.Cond.before (Jvm.Cond.eq (Jvm.Term.field (Jvm.Term.static "PageGarden$Command" "ABORT" "LPageGarden$Command;") "PageGarden$Command" "word" "Ljava/lang/String;") (Jvm.Term.string "PageGarden$Command" (68 : Nat))) #[.ref b] s = true := hs _ (List.mem_of_getElem? (i := 57) (by decide +kernel))
theorem gN_4 {b : Nat} {s : State} (hs : ∀ c ∈ flatC (Jvm.Cond.and given_1 narrow_1), c.before #[.ref b] s = true) : Jvm.Cond.before (Jvm.Cond.eq (Jvm.Term.field (Jvm.Term.static "PageGarden$Command" "ABORT" "LPageGarden$Command;") "PageGarden$Command" "numbers" "I") (Jvm.Term.int (0 : Int32))) #[.ref b] s = true := hs _ (List.mem_of_getElem? (i := 58) (by decide +kernel))
theorem gC_4 {b : Nat} {s : State} (hs : ∀ c ∈ flatC (Jvm.Cond.and given_1 narrow_1), c.before #[.ref b] s = true) : Jvm.Cond.before (Jvm.Cond.eq (Jvm.Term.elem (Jvm.Term.static "PageGarden" "COMMANDS" "[LPageGarden$Command;") (Jvm.Term.int (4 : Int32))) (Jvm.Term.static "PageGarden$Command" "ABORT" "LPageGarden$Command;")) #[.ref b] s = true := hs _ (List.mem_of_getElem? (i := 13) (by decide +kernel))
theorem gM_4 {b : Nat} {s : State} (hs : ∀ c ∈ flatC (Jvm.Cond.and given_1 narrow_1), c.before #[.ref b] s = true) : Jvm.Cond.before (Jvm.Cond.eq (Jvm.Term.elem (Jvm.Term.static "PageGarden$1" "$SwitchMap$PageGarden$Command" "[I") (Jvm.Term.int (4 : Int32))) (Jvm.Term.int (5 : Int32))) #[.ref b] s = true := hs _ (List.mem_of_getElem? (i := 28) (by decide +kernel))
theorem gS_4 {b : Nat} {s : State} (hs : ∀ c ∈ flatC (Jvm.Cond.and given_1 narrow_1), c.before #[.ref b] s = true) : Jvm.Cond.before (Jvm.Cond.exactly (Jvm.Term.string "PageGarden$Command" (68 : Nat)) "java/lang/String") #[.ref b] s = true := hs _ (List.mem_of_getElem? (i := 265) (by decide +kernel))
theorem gSc_4 {b : Nat} {s : State} (hs : ∀ c ∈ flatC (Jvm.Cond.and given_1 narrow_1), c.before #[.ref b] s = true) : Jvm.Cond.before (Jvm.Cond.eq (Jvm.Term.field (Jvm.Term.string "PageGarden$Command" (68 : Nat)) "java/lang/String" "coder" "B") (Jvm.Term.int (0 : Int32))) #[.ref b] s = true := hs _ (List.mem_of_getElem? (i := 266) (by decide +kernel))
theorem gSa_4 {b : Nat} {s : State} (hs : ∀ c ∈ flatC (Jvm.Cond.and given_1 narrow_1), c.before #[.ref b] s = true) : Jvm.Cond.before (Jvm.Cond.arrayOf (Jvm.Term.field (Jvm.Term.string "PageGarden$Command" (68 : Nat)) "java/lang/String" "value" "[B") Jvm.ClassFile.FieldType.byte) #[.ref b] s = true := hs _ (List.mem_of_getElem? (i := 267) (by decide +kernel))
theorem gSl_4 {b : Nat} {s : State} (hs : ∀ c ∈ flatC (Jvm.Cond.and given_1 narrow_1), c.before #[.ref b] s = true) : Jvm.Cond.before (Jvm.Cond.eq (Jvm.Term.length (Jvm.Term.field (Jvm.Term.string "PageGarden$Command" (68 : Nat)) "java/lang/String" "value" "[B")) (Jvm.Term.int (5 : Int32))) #[.ref b] s = true := hs _ (List.mem_of_getElem? (i := 268) (by decide +kernel))
theorem gSe_4_0 {b : Nat} {s : State} (hs : ∀ c ∈ flatC (Jvm.Cond.and given_1 narrow_1), c.before #[.ref b] s = true) : Jvm.Cond.before (Jvm.Cond.eq (Jvm.Term.elem (Jvm.Term.field (Jvm.Term.string "PageGarden$Command" (68 : Nat)) "java/lang/String" "value" "[B") (Jvm.Term.int (0 : Int32))) (Jvm.Term.int (97 : Int32))) #[.ref b] s = true := hs _ (List.mem_of_getElem? (i := 269) (by decide +kernel))
theorem gSe_4_1 {b : Nat} {s : State} (hs : ∀ c ∈ flatC (Jvm.Cond.and given_1 narrow_1), c.before #[.ref b] s = true) : Jvm.Cond.before (Jvm.Cond.eq (Jvm.Term.elem (Jvm.Term.field (Jvm.Term.string "PageGarden$Command" (68 : Nat)) "java/lang/String" "value" "[B") (Jvm.Term.int (1 : Int32))) (Jvm.Term.int (98 : Int32))) #[.ref b] s = true := hs _ (List.mem_of_getElem? (i := 270) (by decide +kernel))
theorem gSe_4_2 {b : Nat} {s : State} (hs : ∀ c ∈ flatC (Jvm.Cond.and given_1 narrow_1), c.before #[.ref b] s = true) : Jvm.Cond.before (Jvm.Cond.eq (Jvm.Term.elem (Jvm.Term.field (Jvm.Term.string "PageGarden$Command" (68 : Nat)) "java/lang/String" "value" "[B") (Jvm.Term.int (2 : Int32))) (Jvm.Term.int (111 : Int32))) #[.ref b] s = true := hs _ (List.mem_of_getElem? (i := 271) (by decide +kernel))
theorem gSe_4_3 {b : Nat} {s : State} (hs : ∀ c ∈ flatC (Jvm.Cond.and given_1 narrow_1), c.before #[.ref b] s = true) : Jvm.Cond.before (Jvm.Cond.eq (Jvm.Term.elem (Jvm.Term.field (Jvm.Term.string "PageGarden$Command" (68 : Nat)) "java/lang/String" "value" "[B") (Jvm.Term.int (3 : Int32))) (Jvm.Term.int (114 : Int32))) #[.ref b] s = true := hs _ (List.mem_of_getElem? (i := 272) (by decide +kernel))
theorem gSe_4_4 {b : Nat} {s : State} (hs : ∀ c ∈ flatC (Jvm.Cond.and given_1 narrow_1), c.before #[.ref b] s = true) : Jvm.Cond.before (Jvm.Cond.eq (Jvm.Term.elem (Jvm.Term.field (Jvm.Term.string "PageGarden$Command" (68 : Nat)) "java/lang/String" "value" "[B") (Jvm.Term.int (4 : Int32))) (Jvm.Term.int (116 : Int32))) #[.ref b] s = true := hs _ (List.mem_of_getElem? (i := 273) (by decide +kernel))
theorem gSn_0_4 {b : Nat} {s : State} (hs : ∀ c ∈ flatC (Jvm.Cond.and given_1 narrow_1), c.before #[.ref b] s = true) : Jvm.Cond.before (Jvm.Cond.not (Jvm.Cond.eq (Jvm.Term.string "PageGarden$Command" (53 : Nat)) (Jvm.Term.string "PageGarden$Command" (68 : Nat)))) #[.ref b] s = true := hs _ (List.mem_of_getElem? (i := 277) (by decide +kernel))
theorem gSn_1_4 {b : Nat} {s : State} (hs : ∀ c ∈ flatC (Jvm.Cond.and given_1 narrow_1), c.before #[.ref b] s = true) : Jvm.Cond.before (Jvm.Cond.not (Jvm.Cond.eq (Jvm.Term.string "PageGarden$Command" (59 : Nat)) (Jvm.Term.string "PageGarden$Command" (68 : Nat)))) #[.ref b] s = true := hs _ (List.mem_of_getElem? (i := 278) (by decide +kernel))
theorem gSn_2_4 {b : Nat} {s : State} (hs : ∀ c ∈ flatC (Jvm.Cond.and given_1 narrow_1), c.before #[.ref b] s = true) : Jvm.Cond.before (Jvm.Cond.not (Jvm.Cond.eq (Jvm.Term.string "PageGarden$Command" (62 : Nat)) (Jvm.Term.string "PageGarden$Command" (68 : Nat)))) #[.ref b] s = true := hs _ (List.mem_of_getElem? (i := 279) (by decide +kernel))
theorem gSn_3_4 {b : Nat} {s : State} (hs : ∀ c ∈ flatC (Jvm.Cond.and given_1 narrow_1), c.before #[.ref b] s = true) : Jvm.Cond.before (Jvm.Cond.not (Jvm.Cond.eq (Jvm.Term.string "PageGarden$Command" (65 : Nat)) (Jvm.Term.string "PageGarden$Command" (68 : Nat)))) #[.ref b] s = true := hs _ (List.mem_of_getElem? (i := 280) (by decide +kernel))
theorem gE_5 {b : Nat} {s : State} (hs : ∀ c ∈ flatC (Jvm.Cond.and given_1 narrow_1), c.before #[.ref b] s = true) : Jvm.Cond.before (Jvm.Cond.exactly (Jvm.Term.static "PageGarden$Command" "OPEN" "LPageGarden$Command;") "PageGarden$Command") #[.ref b] s = true := hs _ (List.mem_of_getElem? (i := 63) (by decide +kernel))
theorem gO_5 {b : Nat} {s : State} (hs : ∀ c ∈ flatC (Jvm.Cond.and given_1 narrow_1), c.before #[.ref b] s = true) : Jvm.Cond.before (Jvm.Cond.eq (Jvm.Term.field (Jvm.Term.static "PageGarden$Command" "OPEN" "LPageGarden$Command;") "java/lang/Enum" "ordinal" "I") (Jvm.Term.int (5 : Int32))) #[.ref b] s = true := hs _ (List.mem_of_getElem? (i := 64) (by decide +kernel))
theorem gW_5 {b : Nat} {s : State} (hs : ∀ c ∈ flatC (Jvm.Cond.and given_1 narrow_1), c.before #[.ref b] s = true) : Jvm.Cond.before (Jvm.Cond.eq (Jvm.Term.field (Jvm.Term.static "PageGarden$Command" "OPEN" "LPageGarden$Command;") "PageGarden$Command" "word" "Ljava/lang/String;") (Jvm.Term.string "PageGarden$Command" (71 : Nat))) #[.ref b] s = true := hs _ (List.mem_of_getElem? (i := 65) (by decide +kernel))
theorem gN_5 {b : Nat} {s : State} (hs : ∀ c ∈ flatC (Jvm.Cond.and given_1 narrow_1), c.before #[.ref b] s = true) : Jvm.Cond.before (Jvm.Cond.eq (Jvm.Term.field (Jvm.Term.static "PageGarden$Command" "OPEN" "LPageGarden$Command;") "PageGarden$Command" "numbers" "I") (Jvm.Term.int (0 : Int32))) #[.ref b] s = true := hs _ (List.mem_of_getElem? (i := 66) (by decide +kernel))
theorem gC_5 {b : Nat} {s : State} (hs : ∀ c ∈ flatC (Jvm.Cond.and given_1 narrow_1), c.before #[.ref b] s = true) : Jvm.Cond.before (Jvm.Cond.eq (Jvm.Term.elem (Jvm.Term.static "PageGarden" "COMMANDS" "[LPageGarden$Command;") (Jvm.Term.int (5 : Int32))) (Jvm.Term.static "PageGarden$Command" "OPEN" "LPageGarden$Command;")) #[.ref b] s = true := hs _ (List.mem_of_getElem? (i := 14) (by decide +kernel))
theorem gM_5 {b : Nat} {s : State} (hs : ∀ c ∈ flatC (Jvm.Cond.and given_1 narrow_1), c.before #[.ref b] s = true) : Jvm.Cond.before (Jvm.Cond.eq (Jvm.Term.elem (Jvm.Term.static "PageGarden$1" "$SwitchMap$PageGarden$Command" "[I") (Jvm.Term.int (5 : Int32))) (Jvm.Term.int (6 : Int32))) #[.ref b] s = true := hs _ (List.mem_of_getElem? (i := 29) (by decide +kernel))
theorem gS_5 {b : Nat} {s : State} (hs : ∀ c ∈ flatC (Jvm.Cond.and given_1 narrow_1), c.before #[.ref b] s = true) : Jvm.Cond.before (Jvm.Cond.exactly (Jvm.Term.string "PageGarden$Command" (71 : Nat)) "java/lang/String") #[.ref b] s = true := hs _ (List.mem_of_getElem? (i := 281) (by decide +kernel))
theorem gSc_5 {b : Nat} {s : State} (hs : ∀ c ∈ flatC (Jvm.Cond.and given_1 narrow_1), c.before #[.ref b] s = true) : Jvm.Cond.before (Jvm.Cond.eq (Jvm.Term.field (Jvm.Term.string "PageGarden$Command" (71 : Nat)) "java/lang/String" "coder" "B") (Jvm.Term.int (0 : Int32))) #[.ref b] s = true := hs _ (List.mem_of_getElem? (i := 282) (by decide +kernel))
theorem gSa_5 {b : Nat} {s : State} (hs : ∀ c ∈ flatC (Jvm.Cond.and given_1 narrow_1), c.before #[.ref b] s = true) : Jvm.Cond.before (Jvm.Cond.arrayOf (Jvm.Term.field (Jvm.Term.string "PageGarden$Command" (71 : Nat)) "java/lang/String" "value" "[B") Jvm.ClassFile.FieldType.byte) #[.ref b] s = true := hs _ (List.mem_of_getElem? (i := 283) (by decide +kernel))
theorem gSl_5 {b : Nat} {s : State} (hs : ∀ c ∈ flatC (Jvm.Cond.and given_1 narrow_1), c.before #[.ref b] s = true) : Jvm.Cond.before (Jvm.Cond.eq (Jvm.Term.length (Jvm.Term.field (Jvm.Term.string "PageGarden$Command" (71 : Nat)) "java/lang/String" "value" "[B")) (Jvm.Term.int (4 : Int32))) #[.ref b] s = true := hs _ (List.mem_of_getElem? (i := 284) (by decide +kernel))
theorem gSe_5_0 {b : Nat} {s : State} (hs : ∀ c ∈ flatC (Jvm.Cond.and given_1 narrow_1), c.before #[.ref b] s = true) : Jvm.Cond.before (Jvm.Cond.eq (Jvm.Term.elem (Jvm.Term.field (Jvm.Term.string "PageGarden$Command" (71 : Nat)) "java/lang/String" "value" "[B") (Jvm.Term.int (0 : Int32))) (Jvm.Term.int (111 : Int32))) #[.ref b] s = true := hs _ (List.mem_of_getElem? (i := 285) (by decide +kernel))
theorem gSe_5_1 {b : Nat} {s : State} (hs : ∀ c ∈ flatC (Jvm.Cond.and given_1 narrow_1), c.before #[.ref b] s = true) : Jvm.Cond.before (Jvm.Cond.eq (Jvm.Term.elem (Jvm.Term.field (Jvm.Term.string "PageGarden$Command" (71 : Nat)) "java/lang/String" "value" "[B") (Jvm.Term.int (1 : Int32))) (Jvm.Term.int (112 : Int32))) #[.ref b] s = true := hs _ (List.mem_of_getElem? (i := 286) (by decide +kernel))
theorem gSe_5_2 {b : Nat} {s : State} (hs : ∀ c ∈ flatC (Jvm.Cond.and given_1 narrow_1), c.before #[.ref b] s = true) : Jvm.Cond.before (Jvm.Cond.eq (Jvm.Term.elem (Jvm.Term.field (Jvm.Term.string "PageGarden$Command" (71 : Nat)) "java/lang/String" "value" "[B") (Jvm.Term.int (2 : Int32))) (Jvm.Term.int (101 : Int32))) #[.ref b] s = true := hs _ (List.mem_of_getElem? (i := 287) (by decide +kernel))
theorem gSe_5_3 {b : Nat} {s : State} (hs : ∀ c ∈ flatC (Jvm.Cond.and given_1 narrow_1), c.before #[.ref b] s = true) : Jvm.Cond.before (Jvm.Cond.eq (Jvm.Term.elem (Jvm.Term.field (Jvm.Term.string "PageGarden$Command" (71 : Nat)) "java/lang/String" "value" "[B") (Jvm.Term.int (3 : Int32))) (Jvm.Term.int (110 : Int32))) #[.ref b] s = true := hs _ (List.mem_of_getElem? (i := 288) (by decide +kernel))
theorem gSn_0_5 {b : Nat} {s : State} (hs : ∀ c ∈ flatC (Jvm.Cond.and given_1 narrow_1), c.before #[.ref b] s = true) : Jvm.Cond.before (Jvm.Cond.not (Jvm.Cond.eq (Jvm.Term.string "PageGarden$Command" (53 : Nat)) (Jvm.Term.string "PageGarden$Command" (71 : Nat)))) #[.ref b] s = true := hs _ (List.mem_of_getElem? (i := 292) (by decide +kernel))
theorem gSn_1_5 {b : Nat} {s : State} (hs : ∀ c ∈ flatC (Jvm.Cond.and given_1 narrow_1), c.before #[.ref b] s = true) : Jvm.Cond.before (Jvm.Cond.not (Jvm.Cond.eq (Jvm.Term.string "PageGarden$Command" (59 : Nat)) (Jvm.Term.string "PageGarden$Command" (71 : Nat)))) #[.ref b] s = true := hs _ (List.mem_of_getElem? (i := 293) (by decide +kernel))
theorem gSn_2_5 {b : Nat} {s : State} (hs : ∀ c ∈ flatC (Jvm.Cond.and given_1 narrow_1), c.before #[.ref b] s = true) : Jvm.Cond.before (Jvm.Cond.not (Jvm.Cond.eq (Jvm.Term.string "PageGarden$Command" (62 : Nat)) (Jvm.Term.string "PageGarden$Command" (71 : Nat)))) #[.ref b] s = true := hs _ (List.mem_of_getElem? (i := 294) (by decide +kernel))
theorem gSn_3_5 {b : Nat} {s : State} (hs : ∀ c ∈ flatC (Jvm.Cond.and given_1 narrow_1), c.before #[.ref b] s = true) : Jvm.Cond.before (Jvm.Cond.not (Jvm.Cond.eq (Jvm.Term.string "PageGarden$Command" (65 : Nat)) (Jvm.Term.string "PageGarden$Command" (71 : Nat)))) #[.ref b] s = true := hs _ (List.mem_of_getElem? (i := 295) (by decide +kernel))
theorem gSn_4_5 {b : Nat} {s : State} (hs : ∀ c ∈ flatC (Jvm.Cond.and given_1 narrow_1), c.before #[.ref b] s = true) : Jvm.Cond.before (Jvm.Cond.not (Jvm.Cond.eq (Jvm.Term.string "PageGarden$Command" (68 : Nat)) (Jvm.Term.string "PageGarden$Command" (71 : Nat)))) #[.ref b] s = true := hs _ (List.mem_of_getElem? (i := 296) (by decide +kernel))
theorem gE_6 {b : Nat} {s : State} (hs : ∀ c ∈ flatC (Jvm.Cond.and given_1 narrow_1), c.before #[.ref b] s = true) : Jvm.Cond.before (Jvm.Cond.exactly (Jvm.Term.static "PageGarden$Command" "CLOSE" "LPageGarden$Command;") "PageGarden$Command") #[.ref b] s = true := hs _ (List.mem_of_getElem? (i := 72) (by decide +kernel))
theorem gO_6 {b : Nat} {s : State} (hs : ∀ c ∈ flatC (Jvm.Cond.and given_1 narrow_1), c.before #[.ref b] s = true) : Jvm.Cond.before (Jvm.Cond.eq (Jvm.Term.field (Jvm.Term.static "PageGarden$Command" "CLOSE" "LPageGarden$Command;") "java/lang/Enum" "ordinal" "I") (Jvm.Term.int (6 : Int32))) #[.ref b] s = true := hs _ (List.mem_of_getElem? (i := 73) (by decide +kernel))
theorem gW_6 {b : Nat} {s : State} (hs : ∀ c ∈ flatC (Jvm.Cond.and given_1 narrow_1), c.before #[.ref b] s = true) : Jvm.Cond.before (Jvm.Cond.eq (Jvm.Term.field (Jvm.Term.static "PageGarden$Command" "CLOSE" "LPageGarden$Command;") "PageGarden$Command" "word" "Ljava/lang/String;") (Jvm.Term.string "PageGarden$Command" (74 : Nat))) #[.ref b] s = true := hs _ (List.mem_of_getElem? (i := 74) (by decide +kernel))
theorem gN_6 {b : Nat} {s : State} (hs : ∀ c ∈ flatC (Jvm.Cond.and given_1 narrow_1), c.before #[.ref b] s = true) : Jvm.Cond.before (Jvm.Cond.eq (Jvm.Term.field (Jvm.Term.static "PageGarden$Command" "CLOSE" "LPageGarden$Command;") "PageGarden$Command" "numbers" "I") (Jvm.Term.int (1 : Int32))) #[.ref b] s = true := hs _ (List.mem_of_getElem? (i := 75) (by decide +kernel))
theorem gC_6 {b : Nat} {s : State} (hs : ∀ c ∈ flatC (Jvm.Cond.and given_1 narrow_1), c.before #[.ref b] s = true) : Jvm.Cond.before (Jvm.Cond.eq (Jvm.Term.elem (Jvm.Term.static "PageGarden" "COMMANDS" "[LPageGarden$Command;") (Jvm.Term.int (6 : Int32))) (Jvm.Term.static "PageGarden$Command" "CLOSE" "LPageGarden$Command;")) #[.ref b] s = true := hs _ (List.mem_of_getElem? (i := 15) (by decide +kernel))
theorem gM_6 {b : Nat} {s : State} (hs : ∀ c ∈ flatC (Jvm.Cond.and given_1 narrow_1), c.before #[.ref b] s = true) : Jvm.Cond.before (Jvm.Cond.eq (Jvm.Term.elem (Jvm.Term.static "PageGarden$1" "$SwitchMap$PageGarden$Command" "[I") (Jvm.Term.int (6 : Int32))) (Jvm.Term.int (7 : Int32))) #[.ref b] s = true := hs _ (List.mem_of_getElem? (i := 30) (by decide +kernel))
theorem gS_6 {b : Nat} {s : State} (hs : ∀ c ∈ flatC (Jvm.Cond.and given_1 narrow_1), c.before #[.ref b] s = true) : Jvm.Cond.before (Jvm.Cond.exactly (Jvm.Term.string "PageGarden$Command" (74 : Nat)) "java/lang/String") #[.ref b] s = true := hs _ (List.mem_of_getElem? (i := 297) (by decide +kernel))
theorem gSc_6 {b : Nat} {s : State} (hs : ∀ c ∈ flatC (Jvm.Cond.and given_1 narrow_1), c.before #[.ref b] s = true) : Jvm.Cond.before (Jvm.Cond.eq (Jvm.Term.field (Jvm.Term.string "PageGarden$Command" (74 : Nat)) "java/lang/String" "coder" "B") (Jvm.Term.int (0 : Int32))) #[.ref b] s = true := hs _ (List.mem_of_getElem? (i := 298) (by decide +kernel))
theorem gSa_6 {b : Nat} {s : State} (hs : ∀ c ∈ flatC (Jvm.Cond.and given_1 narrow_1), c.before #[.ref b] s = true) : Jvm.Cond.before (Jvm.Cond.arrayOf (Jvm.Term.field (Jvm.Term.string "PageGarden$Command" (74 : Nat)) "java/lang/String" "value" "[B") Jvm.ClassFile.FieldType.byte) #[.ref b] s = true := hs _ (List.mem_of_getElem? (i := 299) (by decide +kernel))
theorem gSl_6 {b : Nat} {s : State} (hs : ∀ c ∈ flatC (Jvm.Cond.and given_1 narrow_1), c.before #[.ref b] s = true) : Jvm.Cond.before (Jvm.Cond.eq (Jvm.Term.length (Jvm.Term.field (Jvm.Term.string "PageGarden$Command" (74 : Nat)) "java/lang/String" "value" "[B")) (Jvm.Term.int (5 : Int32))) #[.ref b] s = true := hs _ (List.mem_of_getElem? (i := 300) (by decide +kernel))
theorem gSe_6_0 {b : Nat} {s : State} (hs : ∀ c ∈ flatC (Jvm.Cond.and given_1 narrow_1), c.before #[.ref b] s = true) : Jvm.Cond.before (Jvm.Cond.eq (Jvm.Term.elem (Jvm.Term.field (Jvm.Term.string "PageGarden$Command" (74 : Nat)) "java/lang/String" "value" "[B") (Jvm.Term.int (0 : Int32))) (Jvm.Term.int (99 : Int32))) #[.ref b] s = true := hs _ (List.mem_of_getElem? (i := 301) (by decide +kernel))
theorem gSe_6_1 {b : Nat} {s : State} (hs : ∀ c ∈ flatC (Jvm.Cond.and given_1 narrow_1), c.before #[.ref b] s = true) : Jvm.Cond.before (Jvm.Cond.eq (Jvm.Term.elem (Jvm.Term.field (Jvm.Term.string "PageGarden$Command" (74 : Nat)) "java/lang/String" "value" "[B") (Jvm.Term.int (1 : Int32))) (Jvm.Term.int (108 : Int32))) #[.ref b] s = true := hs _ (List.mem_of_getElem? (i := 302) (by decide +kernel))
theorem gSe_6_2 {b : Nat} {s : State} (hs : ∀ c ∈ flatC (Jvm.Cond.and given_1 narrow_1), c.before #[.ref b] s = true) : Jvm.Cond.before (Jvm.Cond.eq (Jvm.Term.elem (Jvm.Term.field (Jvm.Term.string "PageGarden$Command" (74 : Nat)) "java/lang/String" "value" "[B") (Jvm.Term.int (2 : Int32))) (Jvm.Term.int (111 : Int32))) #[.ref b] s = true := hs _ (List.mem_of_getElem? (i := 303) (by decide +kernel))
theorem gSe_6_3 {b : Nat} {s : State} (hs : ∀ c ∈ flatC (Jvm.Cond.and given_1 narrow_1), c.before #[.ref b] s = true) : Jvm.Cond.before (Jvm.Cond.eq (Jvm.Term.elem (Jvm.Term.field (Jvm.Term.string "PageGarden$Command" (74 : Nat)) "java/lang/String" "value" "[B") (Jvm.Term.int (3 : Int32))) (Jvm.Term.int (115 : Int32))) #[.ref b] s = true := hs _ (List.mem_of_getElem? (i := 304) (by decide +kernel))
theorem gSe_6_4 {b : Nat} {s : State} (hs : ∀ c ∈ flatC (Jvm.Cond.and given_1 narrow_1), c.before #[.ref b] s = true) : Jvm.Cond.before (Jvm.Cond.eq (Jvm.Term.elem (Jvm.Term.field (Jvm.Term.string "PageGarden$Command" (74 : Nat)) "java/lang/String" "value" "[B") (Jvm.Term.int (4 : Int32))) (Jvm.Term.int (101 : Int32))) #[.ref b] s = true := hs _ (List.mem_of_getElem? (i := 305) (by decide +kernel))
theorem gSn_0_6 {b : Nat} {s : State} (hs : ∀ c ∈ flatC (Jvm.Cond.and given_1 narrow_1), c.before #[.ref b] s = true) : Jvm.Cond.before (Jvm.Cond.not (Jvm.Cond.eq (Jvm.Term.string "PageGarden$Command" (53 : Nat)) (Jvm.Term.string "PageGarden$Command" (74 : Nat)))) #[.ref b] s = true := hs _ (List.mem_of_getElem? (i := 309) (by decide +kernel))
theorem gSn_1_6 {b : Nat} {s : State} (hs : ∀ c ∈ flatC (Jvm.Cond.and given_1 narrow_1), c.before #[.ref b] s = true) : Jvm.Cond.before (Jvm.Cond.not (Jvm.Cond.eq (Jvm.Term.string "PageGarden$Command" (59 : Nat)) (Jvm.Term.string "PageGarden$Command" (74 : Nat)))) #[.ref b] s = true := hs _ (List.mem_of_getElem? (i := 310) (by decide +kernel))
theorem gSn_2_6 {b : Nat} {s : State} (hs : ∀ c ∈ flatC (Jvm.Cond.and given_1 narrow_1), c.before #[.ref b] s = true) : Jvm.Cond.before (Jvm.Cond.not (Jvm.Cond.eq (Jvm.Term.string "PageGarden$Command" (62 : Nat)) (Jvm.Term.string "PageGarden$Command" (74 : Nat)))) #[.ref b] s = true := hs _ (List.mem_of_getElem? (i := 311) (by decide +kernel))
theorem gSn_3_6 {b : Nat} {s : State} (hs : ∀ c ∈ flatC (Jvm.Cond.and given_1 narrow_1), c.before #[.ref b] s = true) : Jvm.Cond.before (Jvm.Cond.not (Jvm.Cond.eq (Jvm.Term.string "PageGarden$Command" (65 : Nat)) (Jvm.Term.string "PageGarden$Command" (74 : Nat)))) #[.ref b] s = true := hs _ (List.mem_of_getElem? (i := 312) (by decide +kernel))
theorem gSn_4_6 {b : Nat} {s : State} (hs : ∀ c ∈ flatC (Jvm.Cond.and given_1 narrow_1), c.before #[.ref b] s = true) : Jvm.Cond.before (Jvm.Cond.not (Jvm.Cond.eq (Jvm.Term.string "PageGarden$Command" (68 : Nat)) (Jvm.Term.string "PageGarden$Command" (74 : Nat)))) #[.ref b] s = true := hs _ (List.mem_of_getElem? (i := 313) (by decide +kernel))
theorem gSn_5_6 {b : Nat} {s : State} (hs : ∀ c ∈ flatC (Jvm.Cond.and given_1 narrow_1), c.before #[.ref b] s = true) : Jvm.Cond.before (Jvm.Cond.not (Jvm.Cond.eq (Jvm.Term.string "PageGarden$Command" (71 : Nat)) (Jvm.Term.string "PageGarden$Command" (74 : Nat)))) #[.ref b] s = true := hs _ (List.mem_of_getElem? (i := 314) (by decide +kernel))
theorem gCa {b : Nat} {s : State} (hs : ∀ c ∈ flatC (Jvm.Cond.and given_1 narrow_1), c.before #[.ref b] s = true) : Jvm.Cond.before (Jvm.Cond.arrayOf (Jvm.Term.static "PageGarden" "COMMANDS" "[LPageGarden$Command;") (Jvm.ClassFile.FieldType.object "PageGarden$Command")) #[.ref b] s = true := hs _ (List.mem_of_getElem? (i := 6) (by decide +kernel))
theorem gCl {b : Nat} {s : State} (hs : ∀ c ∈ flatC (Jvm.Cond.and given_1 narrow_1), c.before #[.ref b] s = true) : Jvm.Cond.before (Jvm.Cond.eq (Jvm.Term.length (Jvm.Term.static "PageGarden" "COMMANDS" "[LPageGarden$Command;")) (Jvm.Term.int (7 : Int32))) #[.ref b] s = true := hs _ (List.mem_of_getElem? (i := 7) (by decide +kernel))
theorem gMa {b : Nat} {s : State} (hs : ∀ c ∈ flatC (Jvm.Cond.and given_1 narrow_1), c.before #[.ref b] s = true) : Jvm.Cond.before (Jvm.Cond.arrayOf (Jvm.Term.static "PageGarden$1" "$SwitchMap$PageGarden$Command" "[I") Jvm.ClassFile.FieldType.int) #[.ref b] s = true := hs _ (List.mem_of_getElem? (i := 22) (by decide +kernel))
theorem gMl {b : Nat} {s : State} (hs : ∀ c ∈ flatC (Jvm.Cond.and given_1 narrow_1), c.before #[.ref b] s = true) : Jvm.Cond.before (Jvm.Cond.eq (Jvm.Term.length (Jvm.Term.static "PageGarden$1" "$SwitchMap$PageGarden$Command" "[I")) (Jvm.Term.int (7 : Int32))) #[.ref b] s = true := hs _ (List.mem_of_getElem? (i := 23) (by decide +kernel))
theorem gCS {b : Nat} {s : State} (hs : ∀ c ∈ flatC (Jvm.Cond.and given_1 narrow_1), c.before #[.ref b] s = true) : Jvm.Cond.before (Jvm.Cond.eq (Jvm.Term.static "java/lang/String" "COMPACT_STRINGS" "Z") (Jvm.Term.int (1 : Int32))) #[.ref b] s = true := hs _ (List.mem_of_getElem? (i := 16) (by decide +kernel))
theorem gPF {b : Nat} {s : State} (hs : ∀ c ∈ flatC (Jvm.Cond.and given_1 narrow_1), c.before #[.ref b] s = true) : Jvm.Cond.before (Jvm.Cond.isRef (Jvm.Term.static "jdk/internal/util/Preconditions" "SIOOBE_FORMATTER" "Ljava/util/function/BiFunction;")) #[.ref b] s = true := hs _ (List.mem_of_getElem? (i := 17) (by decide +kernel))
theorem gUS {b : Nat} {s : State} (hs : ∀ c ∈ flatC (Jvm.Cond.and given_1 narrow_1), c.before #[.ref b] s = true) : Jvm.Cond.before (Jvm.Cond.isRef (Jvm.Term.static "java/lang/Throwable" "UNASSIGNED_STACK" "[Ljava/lang/StackTraceElement;")) #[.ref b] s = true := hs _ (List.mem_of_getElem? (i := 31) (by decide +kernel))
theorem gSS {b : Nat} {s : State} (hs : ∀ c ∈ flatC (Jvm.Cond.and given_1 narrow_1), c.before #[.ref b] s = true) : Jvm.Cond.before (Jvm.Cond.isRef (Jvm.Term.static "java/lang/Throwable" "SUPPRESSED_SENTINEL" "Ljava/util/List;")) #[.ref b] s = true := hs _ (List.mem_of_getElem? (i := 32) (by decide +kernel))
theorem gNc_ISIA {b : Nat} {s : State} (hs : ∀ c ∈ flatC (Jvm.Cond.and given_1 narrow_1), c.before #[.ref b] s = true) : Jvm.Cond.before (Jvm.Cond.not (Jvm.Cond.castable "java/lang/IllegalStateException" "java/lang/IllegalArgumentException")) #[.ref b] s = true := hs _ (List.mem_of_getElem? (i := 98) (by decide +kernel))
theorem gNc_ISIO {b : Nat} {s : State} (hs : ∀ c ∈ flatC (Jvm.Cond.and given_1 narrow_1), c.before #[.ref b] s = true) : Jvm.Cond.before (Jvm.Cond.not (Jvm.Cond.castable "java/lang/IllegalStateException" "java/lang/IndexOutOfBoundsException")) #[.ref b] s = true := hs _ (List.mem_of_getElem? (i := 107) (by decide +kernel))
theorem gNc_IAIO {b : Nat} {s : State} (hs : ∀ c ∈ flatC (Jvm.Cond.and given_1 narrow_1), c.before #[.ref b] s = true) : Jvm.Cond.before (Jvm.Cond.not (Jvm.Cond.castable "java/lang/IllegalArgumentException" "java/lang/IndexOutOfBoundsException")) #[.ref b] s = true := hs _ (List.mem_of_getElem? (i := 106) (by decide +kernel))
theorem gX_237 {b : Nat} {s : State} (hs : ∀ c ∈ flatC (Jvm.Cond.and given_1 narrow_1), c.before #[.ref b] s = true) : Jvm.Cond.before (Jvm.Cond.exactly (Jvm.Term.string "PageGarden" (237 : Nat)) "java/lang/String") #[.ref b] s = true := hs _ (List.mem_of_getElem? (i := 109) (by decide +kernel))
theorem gX_244 {b : Nat} {s : State} (hs : ∀ c ∈ flatC (Jvm.Cond.and given_1 narrow_1), c.before #[.ref b] s = true) : Jvm.Cond.before (Jvm.Cond.exactly (Jvm.Term.string "PageGarden" (244 : Nat)) "java/lang/String") #[.ref b] s = true := hs _ (List.mem_of_getElem? (i := 135) (by decide +kernel))
theorem gX_249 {b : Nat} {s : State} (hs : ∀ c ∈ flatC (Jvm.Cond.and given_1 narrow_1), c.before #[.ref b] s = true) : Jvm.Cond.before (Jvm.Cond.exactly (Jvm.Term.string "PageGarden" (249 : Nat)) "java/lang/String") #[.ref b] s = true := hs _ (List.mem_of_getElem? (i := 171) (by decide +kernel))
def tmE (i : Nat) : Jvm.Term := .static "PageGarden$Command" (["BEGIN", "PUT", "DROP", "COMMIT", "ABORT", "OPEN", "CLOSE"].getD i "") "LPageGarden$Command;"
def tmS (i : Nat) : Jvm.Term := .string "PageGarden$Command" ([53, 59, 62, 65, 68, 71, 74].getD i 0)
theorem fE {b : Nat} {s : State} (hs : ∀ c ∈ flatC (Jvm.Cond.and given_1 narrow_1), c.before #[.ref b] s = true) : ∀ i : Nat, i < 7 → (Cond.exactly (tmE i) "PageGarden$Command").before #[.ref b] s = true := fun i hi => by
  match i, hi with
  | 0, _ => exact gE_0 hs
  | 1, _ => exact gE_1 hs
  | 2, _ => exact gE_2 hs
  | 3, _ => exact gE_3 hs
  | 4, _ => exact gE_4 hs
  | 5, _ => exact gE_5 hs
  | 6, _ => exact gE_6 hs
  | n + 7, h => exact absurd h (by omega)
theorem fO {b : Nat} {s : State} (hs : ∀ c ∈ flatC (Jvm.Cond.and given_1 narrow_1), c.before #[.ref b] s = true) : ∀ i : Nat, i < 7 → (Cond.eq (.field (tmE i) "java/lang/Enum" "ordinal" "I") (.int (nI i))).before #[.ref b] s = true := fun i hi => by
  match i, hi with
  | 0, _ => exact gO_0 hs
  | 1, _ => exact gO_1 hs
  | 2, _ => exact gO_2 hs
  | 3, _ => exact gO_3 hs
  | 4, _ => exact gO_4 hs
  | 5, _ => exact gO_5 hs
  | 6, _ => exact gO_6 hs
  | n + 7, h => exact absurd h (by omega)
theorem fW {b : Nat} {s : State} (hs : ∀ c ∈ flatC (Jvm.Cond.and given_1 narrow_1), c.before #[.ref b] s = true) : ∀ i : Nat, i < 7 → (Cond.eq (.field (tmE i) "PageGarden$Command" "word" "Ljava/lang/String;") (tmS i)).before #[.ref b] s = true := fun i hi => by
  match i, hi with
  | 0, _ => exact gW_0 hs
  | 1, _ => exact gW_1 hs
  | 2, _ => exact gW_2 hs
  | 3, _ => exact gW_3 hs
  | 4, _ => exact gW_4 hs
  | 5, _ => exact gW_5 hs
  | 6, _ => exact gW_6 hs
  | n + 7, h => exact absurd h (by omega)
theorem fN {b : Nat} {s : State} (hs : ∀ c ∈ flatC (Jvm.Cond.and given_1 narrow_1), c.before #[.ref b] s = true) : ∀ i : Nat, i < 7 → (Cond.eq (.field (tmE i) "PageGarden$Command" "numbers" "I") (.int (numb (nI (i + 1))))).before #[.ref b] s = true := fun i hi => by
  match i, hi with
  | 0, _ => exact gN_0 hs
  | 1, _ => exact gN_1 hs
  | 2, _ => exact gN_2 hs
  | 3, _ => exact gN_3 hs
  | 4, _ => exact gN_4 hs
  | 5, _ => exact gN_5 hs
  | 6, _ => exact gN_6 hs
  | n + 7, h => exact absurd h (by omega)
theorem fC {b : Nat} {s : State} (hs : ∀ c ∈ flatC (Jvm.Cond.and given_1 narrow_1), c.before #[.ref b] s = true) : ∀ i : Nat, i < 7 → (Cond.eq (.elem (Jvm.Term.static "PageGarden" "COMMANDS" "[LPageGarden$Command;") (.int (Int32.ofNat i))) (tmE i)).before #[.ref b] s = true := fun i hi => by
  match i, hi with
  | 0, _ => exact gC_0 hs
  | 1, _ => exact gC_1 hs
  | 2, _ => exact gC_2 hs
  | 3, _ => exact gC_3 hs
  | 4, _ => exact gC_4 hs
  | 5, _ => exact gC_5 hs
  | 6, _ => exact gC_6 hs
  | n + 7, h => exact absurd h (by omega)
theorem fM {b : Nat} {s : State} (hs : ∀ c ∈ flatC (Jvm.Cond.and given_1 narrow_1), c.before #[.ref b] s = true) : ∀ i : Nat, i < 7 → (Cond.eq (.elem (Jvm.Term.static "PageGarden$1" "$SwitchMap$PageGarden$Command" "[I") (.int (Int32.ofNat i))) (.int (nI (i + 1)))).before #[.ref b] s = true := fun i hi => by
  match i, hi with
  | 0, _ => exact gM_0 hs
  | 1, _ => exact gM_1 hs
  | 2, _ => exact gM_2 hs
  | 3, _ => exact gM_3 hs
  | 4, _ => exact gM_4 hs
  | 5, _ => exact gM_5 hs
  | 6, _ => exact gM_6 hs
  | n + 7, h => exact absurd h (by omega)
theorem fS {b : Nat} {s : State} (hs : ∀ c ∈ flatC (Jvm.Cond.and given_1 narrow_1), c.before #[.ref b] s = true) : ∀ i : Nat, i < 7 → (Cond.exactly (tmS i) "java/lang/String").before #[.ref b] s = true := fun i hi => by
  match i, hi with
  | 0, _ => exact gS_0 hs
  | 1, _ => exact gS_1 hs
  | 2, _ => exact gS_2 hs
  | 3, _ => exact gS_3 hs
  | 4, _ => exact gS_4 hs
  | 5, _ => exact gS_5 hs
  | 6, _ => exact gS_6 hs
  | n + 7, h => exact absurd h (by omega)
theorem fSc {b : Nat} {s : State} (hs : ∀ c ∈ flatC (Jvm.Cond.and given_1 narrow_1), c.before #[.ref b] s = true) : ∀ i : Nat, i < 7 → (Cond.eq (.field (tmS i) "java/lang/String" "coder" "B") (.int 0)).before #[.ref b] s = true := fun i hi => by
  match i, hi with
  | 0, _ => exact gSc_0 hs
  | 1, _ => exact gSc_1 hs
  | 2, _ => exact gSc_2 hs
  | 3, _ => exact gSc_3 hs
  | 4, _ => exact gSc_4 hs
  | 5, _ => exact gSc_5 hs
  | 6, _ => exact gSc_6 hs
  | n + 7, h => exact absurd h (by omega)
theorem fSa {b : Nat} {s : State} (hs : ∀ c ∈ flatC (Jvm.Cond.and given_1 narrow_1), c.before #[.ref b] s = true) : ∀ i : Nat, i < 7 → (Cond.arrayOf (.field (tmS i) "java/lang/String" "value" "[B") .byte).before #[.ref b] s = true := fun i hi => by
  match i, hi with
  | 0, _ => exact gSa_0 hs
  | 1, _ => exact gSa_1 hs
  | 2, _ => exact gSa_2 hs
  | 3, _ => exact gSa_3 hs
  | 4, _ => exact gSa_4 hs
  | 5, _ => exact gSa_5 hs
  | 6, _ => exact gSa_6 hs
  | n + 7, h => exact absurd h (by omega)
theorem fSl {b : Nat} {s : State} (hs : ∀ c ∈ flatC (Jvm.Cond.and given_1 narrow_1), c.before #[.ref b] s = true) : ∀ i : Nat, i < 7 → (Cond.eq (.length (.field (tmS i) "java/lang/String" "value" "[B")) (.int (Int32.ofNat (wlen.getD i 0)))).before #[.ref b] s = true := fun i hi => by
  match i, hi with
  | 0, _ => exact gSl_0 hs
  | 1, _ => exact gSl_1 hs
  | 2, _ => exact gSl_2 hs
  | 3, _ => exact gSl_3 hs
  | 4, _ => exact gSl_4 hs
  | 5, _ => exact gSl_5 hs
  | 6, _ => exact gSl_6 hs
  | n + 7, h => exact absurd h (by omega)
theorem fSe {b : Nat} {s : State} (hs : ∀ c ∈ flatC (Jvm.Cond.and given_1 narrow_1), c.before #[.ref b] s = true) : ∀ i : Nat, i < 7 → ∀ j : Nat, j < wlen.getD i 0 → (Cond.eq (.elem (.field (tmS i) "java/lang/String" "value" "[B") (.int (Int32.ofNat j))) (.int ((wbyt.getD i []).getD j 0))).before #[.ref b] s = true := fun i hi => by
  match i, hi with
  | 0, _ =>
    intro j hj
    match j, hj with
    | 0, _ => exact gSe_0_0 hs
    | 1, _ => exact gSe_0_1 hs
    | 2, _ => exact gSe_0_2 hs
    | 3, _ => exact gSe_0_3 hs
    | 4, _ => exact gSe_0_4 hs
    | n + 5, h => exact absurd (show n + 5 < 5 from h) (by omega)
  | 1, _ =>
    intro j hj
    match j, hj with
    | 0, _ => exact gSe_1_0 hs
    | 1, _ => exact gSe_1_1 hs
    | 2, _ => exact gSe_1_2 hs
    | n + 3, h => exact absurd (show n + 3 < 3 from h) (by omega)
  | 2, _ =>
    intro j hj
    match j, hj with
    | 0, _ => exact gSe_2_0 hs
    | 1, _ => exact gSe_2_1 hs
    | 2, _ => exact gSe_2_2 hs
    | 3, _ => exact gSe_2_3 hs
    | n + 4, h => exact absurd (show n + 4 < 4 from h) (by omega)
  | 3, _ =>
    intro j hj
    match j, hj with
    | 0, _ => exact gSe_3_0 hs
    | 1, _ => exact gSe_3_1 hs
    | 2, _ => exact gSe_3_2 hs
    | 3, _ => exact gSe_3_3 hs
    | 4, _ => exact gSe_3_4 hs
    | 5, _ => exact gSe_3_5 hs
    | n + 6, h => exact absurd (show n + 6 < 6 from h) (by omega)
  | 4, _ =>
    intro j hj
    match j, hj with
    | 0, _ => exact gSe_4_0 hs
    | 1, _ => exact gSe_4_1 hs
    | 2, _ => exact gSe_4_2 hs
    | 3, _ => exact gSe_4_3 hs
    | 4, _ => exact gSe_4_4 hs
    | n + 5, h => exact absurd (show n + 5 < 5 from h) (by omega)
  | 5, _ =>
    intro j hj
    match j, hj with
    | 0, _ => exact gSe_5_0 hs
    | 1, _ => exact gSe_5_1 hs
    | 2, _ => exact gSe_5_2 hs
    | 3, _ => exact gSe_5_3 hs
    | n + 4, h => exact absurd (show n + 4 < 4 from h) (by omega)
  | 6, _ =>
    intro j hj
    match j, hj with
    | 0, _ => exact gSe_6_0 hs
    | 1, _ => exact gSe_6_1 hs
    | 2, _ => exact gSe_6_2 hs
    | 3, _ => exact gSe_6_3 hs
    | 4, _ => exact gSe_6_4 hs
    | n + 5, h => exact absurd (show n + 5 < 5 from h) (by omega)
  | n + 7, h => exact absurd h (by omega)
theorem fSn0 {b : Nat} {s : State} (hs : ∀ c ∈ flatC (Jvm.Cond.and given_1 narrow_1), c.before #[.ref b] s = true) : ∀ i j : Nat, i < j → j < 7 → (Cond.not (Cond.eq (tmS i) (tmS j))).before #[.ref b] s = true := fun i j hij hj => by
  match j, hj with
  | 0, _ =>
    exact absurd hij (by omega)
  | 1, _ =>
    match i, hij with
    | 0, _ => exact gSn_0_1 hs
    | n + 1, h => exact absurd h (by omega)
  | 2, _ =>
    match i, hij with
    | 0, _ => exact gSn_0_2 hs
    | 1, _ => exact gSn_1_2 hs
    | n + 2, h => exact absurd h (by omega)
  | 3, _ =>
    match i, hij with
    | 0, _ => exact gSn_0_3 hs
    | 1, _ => exact gSn_1_3 hs
    | 2, _ => exact gSn_2_3 hs
    | n + 3, h => exact absurd h (by omega)
  | 4, _ =>
    match i, hij with
    | 0, _ => exact gSn_0_4 hs
    | 1, _ => exact gSn_1_4 hs
    | 2, _ => exact gSn_2_4 hs
    | 3, _ => exact gSn_3_4 hs
    | n + 4, h => exact absurd h (by omega)
  | 5, _ =>
    match i, hij with
    | 0, _ => exact gSn_0_5 hs
    | 1, _ => exact gSn_1_5 hs
    | 2, _ => exact gSn_2_5 hs
    | 3, _ => exact gSn_3_5 hs
    | 4, _ => exact gSn_4_5 hs
    | n + 5, h => exact absurd h (by omega)
  | 6, _ =>
    match i, hij with
    | 0, _ => exact gSn_0_6 hs
    | 1, _ => exact gSn_1_6 hs
    | 2, _ => exact gSn_2_6 hs
    | 3, _ => exact gSn_3_6 hs
    | 4, _ => exact gSn_4_6 hs
    | 5, _ => exact gSn_5_6 hs
    | n + 6, h => exact absurd h (by omega)
  | n + 7, h => exact absurd h (by omega)
theorem nest_in : ∀ w ∈ nestL, w.onTables = true ∧ w ∈ lw_tbl := by decide +kernel
theorem cast_in : ∀ w ∈ castL, w.onTables = true ∧ w ∈ lw_tbl := by decide +kernel
theorem ls_0 : Cond.laysStatic "PageGarden" "COMMANDS" "[LPageGarden$Command;" ∈ lw_tbl := by decide +kernel
theorem ls_1 : Cond.laysStatic "PageGarden$1" "$SwitchMap$PageGarden$Command" "[I" ∈ lw_tbl := by decide +kernel
theorem ls_2 : Cond.laysStatic "java/lang/String" "COMPACT_STRINGS" "Z" ∈ lw_tbl := by decide +kernel
theorem ls_3 : Cond.laysStatic "jdk/internal/util/Preconditions" "SIOOBE_FORMATTER" "Ljava/util/function/BiFunction;" ∈ lw_tbl := by decide +kernel
theorem ls_4 : Cond.laysStatic "java/lang/Throwable" "UNASSIGNED_STACK" "[Ljava/lang/StackTraceElement;" ∈ lw_tbl := by decide +kernel
theorem ls_5 : Cond.laysStatic "java/lang/Throwable" "SUPPRESSED_SENTINEL" "Ljava/util/List;" ∈ lw_tbl := by decide +kernel
theorem li_0 : Cond.initialized "PageGarden" ∈ lw_tbl := by decide +kernel
theorem li_1 : Cond.initialized "PageGarden$1" ∈ lw_tbl := by decide +kernel
theorem li_2 : Cond.initialized "java/lang/String" ∈ lw_tbl := by decide +kernel
theorem li_3 : Cond.initialized "jdk/internal/util/Preconditions" ∈ lw_tbl := by decide +kernel
theorem li_4 : Cond.initialized "java/lang/Throwable" ∈ lw_tbl := by decide +kernel
theorem sr_237 : Cond.stringRef "PageGarden" 237 "there is no such thing" ∈ lw_tbl := by decide +kernel
theorem sr_244 : Cond.stringRef "PageGarden" 244 "an argument is out of its range" ∈ lw_tbl := by decide +kernel
theorem sr_249 : Cond.stringRef "PageGarden" 249 "the garden's state does not allow it" ∈ lw_tbl := by decide +kernel
set_option maxHeartbeats 2000000 in
theorem ENV_start {b : Nat} {s : State} (hts : ∀ w ∈ lw_tbl, w.before #[.ref b] s = true) (hs : ∀ c ∈ flatC (Jvm.Cond.and given_1 narrow_1), c.before #[.ref b] s = true) : ∃ (tC tS : Nat) (adE adK adV : Nat → Nat), ENV tC tS adE adK adV (fun q => s.heap.size ≤ q) s s.heap := by
  have hA : ∀ a : Nat, a < s.heap.size → ¬ (fun q => s.heap.size ≤ q) a := fun a h => Nat.not_le.mpr h
  have hev : ∀ i, i < 7 → ∃ a : Nat, (tmE i).eval #[.ref b] s none [] s = some (.ref a) := fun i hi => by
    obtain ⟨a, c, cell, k, h1, -⟩ := Cond.exactly_spec (fE hs i hi)
    exact ⟨a, h1⟩
  obtain ⟨adE, hadE⟩ : ∃ adE : Nat → Nat, ∀ i, i < 7 → (tmE i).eval #[.ref b] s none [] s = some (.ref (adE i)) := by
    refine ⟨fun i => if h : i < 7 then Classical.choose (hev i h) else 0, fun i hi => ?_⟩
    have q := Classical.choose_spec (hev i hi)
    simp only [hi, dite_true]
    exact q
  obtain ⟨adK, adV, hS, hK⟩ := vk_Sof (N := 7) (tm := tmS) (len := wlen) (byt := wbyt) (by decide +kernel) (fS hs) (fSc hs) (fSa hs) (fSl hs) (fSe hs) (fun i j hi hj hne => (Nat.lt_or_gt_of_ne hne).elim (fun q => Or.inl (fSn0 hs i j q hj)) (fun q => Or.inr (fSn0 hs j i q hi))) hA
  obtain ⟨tC, hC, hTC⟩ := va_Tof (f := fun j => .ref (adE j)) (N := 7) (by decide) (gCa hs) (va_eqt (gCl hs)) (fun j hj => va_eqv (fC hs j hj) (hadE j hj)) hA
  obtain ⟨tS, hM, hTM⟩ := va_Tof (f := fun j => .int (nI (j + 1))) (N := 7) (by decide) (gMa hs) (va_eqt (gMl hs)) (fun j hj => va_eqt (fM hs j hj)) hA
  obtain ⟨s1, c1, cell1, k1, e1, -⟩ := Cond.exactly_spec (gX_237 hs)
  obtain ⟨s2, c2, cell2, k2, e2, -⟩ := Cond.exactly_spec (gX_244 hs)
  obtain ⟨s3, c3, cell3, k3, e3, -⟩ := Cond.exactly_spec (gX_249 hs)
  have hO : va_Ef 7 "java/lang/Enum" "ordinal" "I" (fun i => .int (nI i)) adE (fun q => s.heap.size ≤ q) s s.heap := va_Efof (E := "PageGarden$Command") (d0 := "LPageGarden$Command;") (nm := ["BEGIN", "PUT", "DROP", "COMMIT", "ABORT", "OPEN", "CLOSE"]) (tm := fun i => .int (nI i)) hadE (fO hs) (fun i hi => rfl) hA
  have hN : va_Ef 7 "PageGarden$Command" "numbers" "I" (fun i => .int (numb (nI (i + 1)))) adE (fun q => s.heap.size ≤ q) s s.heap := va_Efof (E := "PageGarden$Command") (d0 := "LPageGarden$Command;") (nm := ["BEGIN", "PUT", "DROP", "COMMIT", "ABORT", "OPEN", "CLOSE"]) (tm := fun i => .int (numb (nI (i + 1)))) hadE (fN hs) (fun i hi => rfl) hA
  have hW : va_Ef 7 "PageGarden$Command" "word" "Ljava/lang/String;" (fun i => .ref (adK i)) adE (fun q => s.heap.size ≤ q) s s.heap := va_Efof (E := "PageGarden$Command") (d0 := "LPageGarden$Command;") (nm := ["BEGIN", "PUT", "DROP", "COMMIT", "ABORT", "OPEN", "CLOSE"]) (tm := tmS) hadE (fW hs) hK hA
  refine ⟨tC, tS, adE, adK, adV, fun w hw => va_Nw.of (nest_in w hw).1 (hts w (nest_in w hw).2), fun w hw => va_Nw.of (cast_in w hw).1 (hts w (cast_in w hw).2), ⟨va_Nc.of (gNc_ISIA hs), va_Nc.of (gNc_ISIO hs), va_Nc.of (gNc_IAIO hs)⟩, ⟨va_Zof (hts _ ls_0) (hts _ li_0) hC hA, hTC⟩, ⟨va_Zof (hts _ ls_1) (hts _ li_1) hM hA, hTM⟩, fun i hi => ⟨va_Oof (fE hs i hi) (hadE i hi) hA, hO i hi, hN i hi, hW i hi⟩, hS, ⟨va_Zof (hts _ ls_2) (hts _ li_2) (va_eqi (gCS hs)) hA, va_Zqof (hts _ ls_3) (hts _ li_3) (gPF hs) hA⟩, ⟨vx_Zqof (hts _ ls_4) (hts _ li_4) (gUS hs) hA, vx_Zqof (hts _ ls_5) (hts _ li_4) (gSS hs) hA⟩, s1, s2, s3, vk_R.of (hts _ sr_237) e1, vk_R.of (hts _ sr_244) e2, vk_R.of (hts _ sr_249) e3⟩
